/-! what the constructors leave (numbers by gen23.py) -/
def zko (M : zM) (k c : Nat) (fs : List Value) : Bool := match zob M k with
  | some (.inr (c1, f1)) => decide (c1 = c ∧ f1 = fs)
  | _ => false
def zka (M : zM) (k t n : Nat) (p : (Nat → Int32) → Bool) : Bool := match zob M k with
  | some (.inl (t1, n1, .inl f)) => decide (t1 = t ∧ n1 = n) && p f
  | _ => false
def zkr (M : zM) (k t n : Nat) (p : (Nat → Option Nat) → Bool) : Bool := match zob M k with
  | some (.inl (t1, n1, .inr (.inr (.inr (.inr f))))) => decide (t1 = t ∧ n1 = n) && p f
  | _ => false
theorem zko_spec {M : zM} {k c : Nat} {fs : List Value} (h : zko M k c fs = true) : zob M k = some (.inr (c, fs)) := by
  unfold zko at h
  split at h
  · rename_i c1 f1 hz
    obtain ⟨rfl, rfl⟩ := of_decide_eq_true h
    exact hz
  · cases h
theorem zka_spec {M : zM} {k t n : Nat} {p : (Nat → Int32) → Bool} (h : zka M k t n p = true) : ∃ f, zob M k = some (.inl (t, n, .inl f)) ∧ p f = true := by
  unfold zka at h
  split at h
  · rename_i t1 n1 f hz
    obtain ⟨h1, h2⟩ := Bool.and_eq_true _ _ ▸ h
    obtain ⟨rfl, rfl⟩ := of_decide_eq_true h1
    exact ⟨f, hz, h2⟩
  · cases h
theorem zkr_spec {M : zM} {k t n : Nat} {p : (Nat → Option Nat) → Bool} (h : zkr M k t n p = true) : ∃ f, zob M k = some (.inl (t, n, .inr (.inr (.inr (.inr f))))) ∧ p f = true := by
  unfold zkr at h
  split at h
  · rename_i t1 n1 f hz
    obtain ⟨h1, h2⟩ := Bool.and_eq_true _ _ ▸ h
    obtain ⟨rfl, rfl⟩ := of_decide_eq_true h1
    exact ⟨f, hz, h2⟩
  · cases h
def zf_0 : List Value := [.ref 1, .int 0, .ref 2, .int 0, .ref 3, .ref 4, .ref 5]
def zf_5 : List Value := [.ref 6, .int 0, .ref 7, .ref 9, .int 0, .int 0, .int 0, .ref 16, .ref 17, .ref 18, .int 0]
def zf_9 : List Value := [.ref 7, .ref 10, .ref 11, .ref 12, .ref 13, .ref 14, .ref 15, .int 0, .int 0, .int 0, .int 0, .int 0, .int 0, .int (-1), .int 0, .int 0, .int (-1), .int 0]
def zf_19 : List Value := [.ref 20, .ref 22, .ref 35, .ref 38, .ref 46, .ref 56, .ref 65, .ref 69, .ref 81, .int 0, .int 0, .int 0, .int 0, .int 0, .int (-1), .int 0, .int (-1), .int 0]
def zf_20 : List Value := [.ref 21, .int 0, .int 0, .int 256, .int 128]
def zf_474 : List Value := [.ref 475, .ref 476, .int 0, .int 0, .int 0, .int 0, .int 0, .ref 477, .ref 478, .ref 479, .int 0, .int 0, .long 0, .long 0, .int 0, .ref 480, .ref 481, .int 0, .int 0, .int 0, .int 0, .int 0, .int 0, .int 0, .int 0, .ref 482, .ref 483, .int 0, .int 0, .int 0, .int 0, .int 0, .ref 484, .ref 485, .int 0]
def zk2 (M : zM) : Bool := Nat.beq M.1 486 && Nat.ble M.2.1 7000000 && (zko M 0 11 zf_0 && (zko M 5 0 zf_5 && (zko M 9 8 zf_9 && (zko M 19 1 zf_19 && (zko M 20 7 zf_20 && (zko M 474 12 zf_474 && (zka M 1 1 1024 (fun _ => true) && (zka M 21 1 4096 (fun _ => true) && (zka M 476 1 1024 (fun _ => true) && (zka M 479 0 4100 (fun _ => true) && (zka M 4 2 2 (fun f => decide (f 0 = 0 ∧ f 1 = 0)) && (zka M 475 0 238220 (fun f => decide (f 35 = 0 ∧ f 39735 = 0 ∧ f 79435 = 0 ∧ f 119135 = 0 ∧ f 158835 = 0)) && (zkr M 2 3 3 (fun f => decide (f 0 = some 19)))))))))))))))
def zchk (f : zM → Bool) (r : Option (Option Value × zM)) : Bool := match r with
  | some (none, M) => f M
  | _ => false
def zM1 : zM := zpush zM0 (.inr (11, zdef 11 7))
def zk1 (z : Nat) (M : zM) : Bool := Nat.beq M.1 474 && zchk zk2 (zev 10 (zX0 z) zmt zovT 14 1000 455 [.ref 474] (zpush M (.inr (12, zdef 12 35))))
set_option maxRecDepth 100000 in
theorem ctors_0 : zchk (zk1 0) (zev 10 (zX0 0) zmt zovT 14 1000 253 [.ref 0] zM1) = true := by decide +kernel
set_option maxRecDepth 100000 in
theorem ctors_1 : zchk (zk1 1) (zev 10 (zX0 1) zmt zovT 14 1000 253 [.ref 0] zM1) = true := by decide +kernel
