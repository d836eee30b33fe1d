/-! high, putByte, putCell -/
section ZHP
variable {X : zX} {call : zCall} {M : zM} {f g : Nat → Int32} {cl rs : Int32}
def zhi (f : Nat → Int32) : Int32 := if f 2 &&& Int32.ofInt 4 = 0 then 0 else 1
theorem zm_high {n : Nat} (hM : 486 ≤ M.1) : zrun X zmt call zm_301 (n + 13) 0 [(0, .ref 474)] [] (zmM M f g cl rs) = some (some (.int (zhi f)), zmM M f g cl rs) := by
  refine zr_s0 rfl rfl rfl rfl ?_
  refine zr_get rfl rfl (zm_o hM) rfl ?_
  refine zr_s0 rfl rfl rfl rfl ?_
  refine zr_get rfl rfl (zm_o hM) rfl ?_
  refine zr_s0 rfl rfl rfl rfl ?_
  refine zr_s0 rfl rfl rfl rfl ?_
  refine zr_ialdM (k := 2) rfl hM (by decide) (by decide) rfl ?_
  refine zr_s0 rfl rfl rfl rfl ?_
  refine zr_s0 rfl rfl rfl rfl ?_
  refine zr_if (t := 20) rfl rfl (fun h => ?_) (fun h => ?_)
  · have e : zhi f = 0 := if_pos (of_decide_eq_true h)
    rw [e]
    refine zr_s0 rfl rfl rfl rfl ?_
    exact zr_ret rfl rfl rfl
  · have e : zhi f = 1 := if_neg (of_decide_eq_false h)
    rw [e]
    refine zr_s0 rfl rfl rfl rfl ?_
    refine zr_s0 rfl rfl rfl rfl ?_
    exact zr_ret rfl rfl rfl
theorem zm_putByte {n k : Nat} {w : Int64} {v : Int32} (hM : 486 ≤ M.1) (hk : k < 4096) (hw : w.toInt32 = nI k) : zrun X zmt call zm_300 (n + 14) 0 [(0, .ref 474), (1, .long w), (3, .int v)] [] (zmM M f g cl rs) = some (none, zmM M (upd f (100 + k) (v &&& (Int16.ofInt 255).toInt32)) g cl rs) := by
  refine zr_s0 rfl rfl rfl rfl ?_
  refine zr_get rfl rfl (zm_o hM) rfl ?_
  refine zr_s0 rfl rfl rfl rfl ?_
  refine zr_get rfl rfl (zm_o hM) rfl ?_
  refine zr_s0 rfl rfl rfl rfl ?_
  refine zr_s0 rfl rfl rfl rfl ?_
  refine zr_s0 rfl rfl rfl rfl ?_
  refine zr_s0 rfl rfl rfl rfl ?_
  refine zr_s0 rfl rfl rfl rfl ?_
  refine zr_s0 rfl rfl rfl rfl ?_
  refine zr_s0 rfl rfl rfl rfl ?_
  refine zr_s0 rfl rfl rfl rfl ?_
  refine zr_iastM (k := 100 + k) rfl hM (by rw [hw, show (0 : Int32) + (Int8.ofInt 100).toInt32 = nI 100 by decide, nI_add]) (by omega) ?_
  exact zr_ret rfl rfl rfl
theorem zpc_w : ∀ i, i < 4 → (Int64.ofNat 0 + (nI i).toInt64).toInt32 = nI i := by decide +kernel
theorem pc_loop {c : Nat} {v : Int32} (hM : 486 ≤ M.1) (hc : c ≤ 4) (hhi : ∀ f, call 301 [.ref 474] (zmM M f g (nI c) rs) = some (some (.int (zhi f)), zmM M f g (nI c) rs)) (hpb : ∀ f k (w : Int64) (v : Int32), k < 4096 → w.toInt32 = nI k → call 300 [.ref 474, .long w, .int v] (zmM M f g (nI c) rs) = some (none, zmM M (upd f (100 + k) (v &&& (Int16.ofInt 255).toInt32)) g (nI c) rs)) : ∀ d i (f : Nat → Int32) n, i + d = c → 5 + 40 * d ≤ n → ∃ f', zrun X zmt call zm_303 n 3 [(0, .ref 474), (1, .long (Int64.ofNat 0)), (3, .int v), (4, .int (nI i))] [] (zmM M f g (nI c) rs) = some (none, zmM M f' g (nI c) rs) := by
  intro d
  induction d with
  | zero =>
    intro i f n hi hn
    have hi : i = c := by omega
    subst hi
    obtain ⟨n, rfl⟩ : ∃ n', n = n' + 5 := ⟨n - 5, by omega⟩
    refine ⟨f, ?_⟩
    refine zr_s0 rfl rfl rfl rfl ?_
    refine zr_s0 rfl rfl rfl rfl ?_
    refine zr_get rfl rfl (zm_o hM) rfl ?_
    refine zr_icmp (t := 56) rfl rfl (fun _ => ?_) (fun h => absurd h zc_self)
    exact zr_ret rfl rfl rfl
  | succ d ih =>
    intro i f n hi hn
    obtain ⟨n, rfl⟩ : ∃ n', n = n' + 40 := ⟨n - 40, by omega⟩
    have e2 : nI i + Int32.ofInt 1 = nI (i + 1) := nI_1 i
    cases hq : zcI .eq (zhi f) 0 with
    | true =>
      obtain ⟨f', hf'⟩ := ih (i + 1) (upd f (100 + i) ((v >>> (((Int8.ofInt 8).toInt32 * nI i) &&& 31)) &&& (Int16.ofInt 255).toInt32)) (n + 20) (by omega) (by omega)
      refine ⟨f', ?_⟩
      refine zr_s0 rfl rfl rfl rfl ?_
      refine zr_s0 rfl rfl rfl rfl ?_
      refine zr_get rfl rfl (zm_o hM) rfl ?_
      refine zr_icmp (t := 56) rfl rfl (fun h => absurd h (zc_nge (by omega) (by omega))) (fun _ => ?_)
      refine zr_s0 rfl rfl rfl rfl ?_
      refine zr_s0 rfl rfl rfl rfl ?_
      refine zr_s0 rfl rfl rfl rfl ?_
      refine zr_s0 rfl rfl rfl rfl ?_
      refine zr_s0 rfl rfl rfl rfl ?_
      refine zr_s0 rfl rfl rfl rfl ?_
      refine zr_s0 rfl rfl rfl rfl ?_
      refine zr_callV rfl rfl rfl rfl (by decide) (zm_o hM) rfl ⟨Or.inl rfl, rfl, rfl, rfl, rfl, rfl, Nat.le_of_ble_eq_true rfl⟩ (hhi _) ?_
      refine zr_if (t := 41) rfl rfl (fun _ => ?_) (fun h => Bool.noConfusion (hq.symm.trans h))
      refine zr_s0 rfl rfl rfl rfl ?_
      refine zr_s0 rfl rfl rfl rfl ?_
      refine zr_s0 rfl rfl rfl rfl ?_
      refine zr_s0 rfl rfl rfl rfl ?_
      refine zr_callV rfl rfl rfl rfl (by decide) (zm_o hM) rfl ⟨Or.inl rfl, rfl, rfl, rfl, rfl, rfl, Nat.le_of_ble_eq_true rfl⟩ (hpb _ i _ _ (by omega) (zpc_w i (by omega))) ?_
      refine zr_s0 rfl rfl rfl rfl ?_
      refine zr_s0 rfl rfl rfl rfl ?_
      rw [e2]
      exact hf'
    | false =>
      obtain ⟨f', hf'⟩ := ih (i + 1) (upd f (100 + i) ((v >>> (((Int8.ofInt 8).toInt32 * (nI c - Int32.ofInt 1 - nI i)) &&& 31)) &&& (Int16.ofInt 255).toInt32)) (n + 14) (by omega) (by omega)
      refine ⟨f', ?_⟩
      refine zr_s0 rfl rfl rfl rfl ?_
      refine zr_s0 rfl rfl rfl rfl ?_
      refine zr_get rfl rfl (zm_o hM) rfl ?_
      refine zr_icmp (t := 56) rfl rfl (fun h => absurd h (zc_nge (by omega) (by omega))) (fun _ => ?_)
      refine zr_s0 rfl rfl rfl rfl ?_
      refine zr_s0 rfl rfl rfl rfl ?_
      refine zr_s0 rfl rfl rfl rfl ?_
      refine zr_s0 rfl rfl rfl rfl ?_
      refine zr_s0 rfl rfl rfl rfl ?_
      refine zr_s0 rfl rfl rfl rfl ?_
      refine zr_s0 rfl rfl rfl rfl ?_
      refine zr_callV rfl rfl rfl rfl (by decide) (zm_o hM) rfl ⟨Or.inl rfl, rfl, rfl, rfl, rfl, rfl, Nat.le_of_ble_eq_true rfl⟩ (hhi _) ?_
      refine zr_if (t := 41) rfl rfl (fun h => Bool.noConfusion (hq.symm.trans h)) (fun _ => ?_)
      refine zr_s0 rfl rfl rfl rfl ?_
      refine zr_s0 rfl rfl rfl rfl ?_
      refine zr_get rfl rfl (zm_o hM) rfl ?_
      refine zr_s0 rfl rfl rfl rfl ?_
      refine zr_s0 rfl rfl rfl rfl ?_
      refine zr_s0 rfl rfl rfl rfl ?_
      refine zr_s0 rfl rfl rfl rfl ?_
      refine zr_s0 rfl rfl rfl rfl ?_
      refine zr_s0 rfl rfl rfl rfl ?_
      refine zr_s0 rfl rfl rfl rfl ?_
      refine zr_callV rfl rfl rfl rfl (by decide) (zm_o hM) rfl ⟨Or.inl rfl, rfl, rfl, rfl, rfl, rfl, Nat.le_of_ble_eq_true rfl⟩ (hpb _ i _ _ (by omega) (zpc_w i (by omega))) ?_
      refine zr_s0 rfl rfl rfl rfl ?_
      refine zr_s0 rfl rfl rfl rfl ?_
      rw [e2]
      exact hf'
theorem zm_putCell {n c : Nat} {v : Int32} (hM : 486 ≤ M.1) (hc : c ≤ 4) (hhi : ∀ f, call 301 [.ref 474] (zmM M f g (nI c) rs) = some (some (.int (zhi f)), zmM M f g (nI c) rs)) (hpb : ∀ f k (w : Int64) (v : Int32), k < 4096 → w.toInt32 = nI k → call 300 [.ref 474, .long w, .int v] (zmM M f g (nI c) rs) = some (none, zmM M (upd f (100 + k) (v &&& (Int16.ofInt 255).toInt32)) g (nI c) rs)) (hn : 300 ≤ n) : ∃ f', zrun X zmt call zm_303 n 0 [(0, .ref 474), (1, .long (Int64.ofNat 0)), (3, .int v)] [] (zmM M f g (nI c) rs) = some (none, zmM M f' g (nI c) rs) := by
  obtain ⟨n, rfl⟩ : ∃ n', n = n' + 2 := ⟨n - 2, by omega⟩
  obtain ⟨f', h⟩ := pc_loop (X := X) (v := v) hM hc hhi hpb c 0 f n (by omega) (by omega)
  refine ⟨f', ?_⟩
  refine zr_s0 rfl rfl rfl rfl ?_
  refine zr_s0 rfl rfl rfl rfl ?_
  exact h
end ZHP
