/-! both sides of each call of a new object -/
section ZPAIR
variable {X : zX} {M : zM} {N d : Nat}
/-- a call of both: the same answer -/
def zpair (X : zX) (N d a b : Nat) (args : List Value) (M : zM) : Prop := ∃ r M1 M2, zev 10 X zmt zovT (d + 13) N a (.ref 0 :: args) M = some (some (.int r), M1) ∧ zev 10 X zmt zovT (d + 13) N b (.ref 474 :: args) M1 = some (some (.int r), M2) ∧ zob M1 474 = some (.inr (12, zf_474)) ∧ M2.1 = 486 ∧ M2.2.1 ≤ 7000000
theorem zpair_M {a b : Nat} {args : List Value} {r : Int32} (hM : zNew M) (h1 : zev 10 X zmt zovT (d + 13) N a (.ref 0 :: args) M = some (some (.int r), M)) (h2 : zev 10 X zmt zovT (d + 13) N b (.ref 474 :: args) M = some (some (.int r), M)) : zpair X N d a b args M := ⟨r, M, M, h1, h2, hM.2.2.2.2.2.2.2.1, hM.1, hM.2.1⟩
theorem p_evaluate (hN : 1000 ≤ N) (hM : zNew M) (va : Int32) (vb : Int32) : zpair X N d 257 463 [.int va, .int vb] M := zpair_M hM (ex_evaluate (d := d + 10) hN hM va vb) (em_evaluate (d := d + 8) hN hM va vb)
theorem p_go (hN : 1000 ≤ N) (hM : zNew M) (va : Int32) (vb : Int32) : zpair X N d 258 464 [.int va, .int vb] M := zpair_M hM (ex_go (d := d + 10) hN hM va vb) (em_go (d := d + 8) hN hM va vb)
theorem p_out (hN : 1000 ≤ N) (hM : zNew M) (va : Int32) (vb : Int32) : zpair X N d 259 465 [.int va, .int vb] M := zpair_M hM (ex_out (d := d + 10) hN hM va vb) (em_out (d := d + 8) hN hM va vb)
theorem p_count (hN : 1000 ≤ N) (hM : zNew M) (va : Int32) (vb : Int32) : zpair X N d 260 466 [.int va, .int vb] M := zpair_M hM (ex_count (d := d + 10) hN hM va vb) (em_count (d := d + 8) hN hM va vb)
theorem p_thrown (hN : 1000 ≤ N) (hM : zNew M) (va : Int32) (vb : Int32) : zpair X N d 261 467 [.int va, .int vb] M := zpair_M hM (ex_thrown (d := d + 10) hN hM va vb) (em_thrown (d := d + 8) hN hM va vb)
theorem p_depth (hN : 1000 ≤ N) (hM : zNew M) (va : Int32) (vb : Int32) (vc : Int32) : zpair X N d 262 468 [.int va, .int vb, .int vc] M := zpair_M hM (ex_depth (d := d + 10) hN hM va vb vc) (em_depth (d := d + 8) hN hM va vb vc)
theorem p_cell (hN : 1000 ≤ N) (hM : zNew M) (va : Int32) (vb : Int32) (vc : Int32) (vd : Int32) : zpair X N d 263 469 [.int va, .int vb, .int vc, .int vd] M := zpair_M hM (ex_cell (d := d + 10) hN hM va vb vc vd) (em_cell (d := d + 8) hN hM va vb vc vd)
theorem p_task (hN : 1000 ≤ N) (hM : zNew M) (va : Int32) (vb : Int32) : zpair X N d 264 470 [.int va, .int vb] M := zpair_M hM (ex_task (d := d + 10) hN hM va vb) (em_task (d := d + 8) hN hM va vb)
theorem p_fetch (hN : 1000 ≤ N) (hM : zNew M) (va : Int32) (vb : Int32) (vc : Int32) : zpair X N d 265 471 [.int va, .int vb, .int vc] M := zpair_M hM (ex_fetch (d := d + 10) hN hM va vb vc) (em_fetch (d := d + 8) hN hM va vb vc)
theorem p_find (hN : 1000 ≤ N) (hM : zNew M) (va : Int32) : zpair X N d 266 472 [.int va] M := zpair_M hM (ex_find (d := d + 10) hN hM va) (em_find (d := d + 8) hN hM va)
theorem p_word (hN : 1000 ≤ N) (hM : zNew M) (va : Int32) (vb : Int32) (vc : Int32) : zpair X N d 267 474 [.int va, .int vb, .int vc] M := zpair_M hM (ex_word (d := d + 10) hN hM va vb vc) (em_word (d := d + 8) hN hM va vb vc)
theorem p_name (hN : 1000 ≤ N) (hM : zNew M) (va : Int32) (vb : Int32) (vc : Int32) : zpair X N d 268 475 [.int va, .int vb, .int vc] M := zpair_M hM (ex_name (d := d + 10) hN hM va vb vc) (em_name (d := d + 8) hN hM va vb vc)
theorem p_item (hN : 1000 ≤ N) (hM : zNew M) (va : Int32) (vb : Int32) (vc : Int32) : zpair X N d 269 476 [.int va, .int vb, .int vc] M := zpair_M hM (ex_item (d := d + 10) hN hM va vb vc) (em_item (d := d + 8) hN hM va vb vc)
theorem p_effect (hN : 1000 ≤ N) (hM : zNew M) (va : Int32) (vb : Int32) : zpair X N d 270 478 [.int va, .int vb] M := zpair_M hM (ex_effect (d := d + 10) hN hM va vb) (em_effect (d := d + 8) hN hM va vb)
theorem p_effectOf (hN : 1000 ≤ N) (hM : zNew M) (va : Int32) (vb : Int32) (vc : Int32) : zpair X N d 271 479 [.int va, .int vb, .int vc] M := zpair_M hM (ex_effectOf (d := d + 10) hN hM va vb vc) (em_effectOf (d := d + 8) hN hM va vb vc)
theorem p_lean (hN : 1000 ≤ N) (hM : zNew M) (va : Int32) (vb : Int32) : zpair X N d 272 480 [.int va, .int vb] M := zpair_M hM (ex_lean (d := d + 10) hN hM va vb) (em_lean (d := d + 8) hN hM va vb)
theorem p_chip (hN : 1000 ≤ N) (hM : zNew M) (va : Int32) (vb : Int32) : zpair X N d 273 481 [.int va, .int vb] M := zpair_M hM (ex_chip (d := d + 10) hN hM va vb) (em_chip (d := d + 8) hN hM va vb)
theorem p_put (hN : 1000 ≤ N) (hM : zNew M) (va : Int32) (vb : Int32) (vc : Int32) : zpair X N d 280 489 [.int va, .int vb, .int vc] M := zpair_M hM (ex_put (d := d + 10) hN hM va vb vc) (em_put (d := d + 8) hN hM va vb vc)
theorem p_keep (hN : 1000 ≤ N) (hM : zNew M) (va : Int32) (vb : Int32) : zpair X N d 281 491 [.int va, .int vb] M := zpair_M hM (ex_keep (d := d + 10) hN hM va vb) (em_keep (d := d + 8) hN hM va vb)
theorem p_same (hN : 1000 ≤ N) (hM : zNew M) (va : Int32) (vb : Int32) : zpair X N d 283 494 [.int va, .int vb] M := zpair_M hM (ex_same (d := d + 10) hN hM va vb) (em_same (d := d + 8) hN hM va vb)
theorem p_wipe (hN : 1000 ≤ N) (hM : zNew M) : zpair X N d 255 459 [] M := zpair_M hM (e_wipe (d := d + 12) hN hM) (em_wipe (d := d + 12) hN hM)
theorem p_chipWord (hN : 1000 ≤ N) (hM : zNew M) (va : Int32) : zpair X N d 274 482 [.int va] M := zpair_M hM (ex_chipWord (d := d + 11) hN hM va) (em_chipWord (d := d + 11) hN hM va)
theorem p_chipPut (hN : 1000 ≤ N) (hM : zNew M) (va : Int32) : zpair X N d 275 484 [.int va] M := zpair_M hM (ex_chipPut (d := d + 11) hN hM va) (em_chipPut (d := d + 12) hN hM va)
theorem p_chipCell (hN : 1000 ≤ N) (hM : zNew M) (va : Int32) : zpair X N d 278 487 [.int va] M := zpair_M hM (ex_chipCell (d := d + 11) hN hM va) (em_chipCell (d := d + 12) hN hM va)
theorem p_chipByte (hN : 1000 ≤ N) (hM : zNew M) (va : Int32) : zpair X N d 279 488 [.int va] M := zpair_M hM (ex_chipByte (d := d + 12) hN hM va) (em_chipByte (d := d + 12) hN hM va)
theorem p_chipGo (hN : 1000 ≤ N) (hM : zNew M) (va : Int32) : zpair X N d 276 485 [.int va] M := by
  rcases zin_01 va 1 20000 with h | h
  · exact zpair_M hM (zev_SK (K := 5) (by omega) rfl rfl (Nat.le_of_ble_eq_true rfl) (fun n => x_chipGo0 (h0 := hM.2.2.1) (h5 := hM.2.2.2.1) (hs := (e_stepsGood (d := d + 11) hN hM va).trans (by rw [h])) (hh := fun v => e_run (d := d + 11) hN hM v))) (zev_SK (K := 7) (by omega) rfl rfl (Nat.le_of_ble_eq_true rfl) (fun n => m_chipGo0 (h474 := hM.2.2.2.2.2.2.2.1) (hi := (e_isIn (d := d + 11) hN va 1 20000).trans (by rw [h]))))
  · exact zpair_M hM (zev_SK (K := 9) (by omega) rfl rfl (Nat.le_of_ble_eq_true rfl) (fun n => x_chipGo1 (h0 := hM.2.2.1) (h5 := hM.2.2.2.1) (hs := (e_stepsGood (d := d + 11) hN hM va).trans (by rw [h])) (hh := fun v => e_run (d := d + 11) hN hM v))) (zev_SK (K := 10) (by omega) rfl rfl (Nat.le_of_ble_eq_true rfl) (fun n => m_chipGo1 (h474 := hM.2.2.2.2.2.2.2.1) (hi := (e_isIn (d := d + 11) hN va 1 20000).trans (by rw [h]))))
theorem p_chipTold (hN : 1000 ≤ N) (hM : zNew M) (va : Int32) : zpair X N d 277 486 [.int va] M := by
  rcases zin_01 va 0 7 with h | h
  · exact zpair_M hM ((ex_chipTold (d := d + 11) hN hM va).trans (by rw [ztold_0 h])) (zev_SK (K := 7) (by omega) rfl rfl (Nat.le_of_ble_eq_true rfl) (fun n => m_chipToldB (h474 := hM.2.2.2.2.2.2.2.1) (hi := (e_isIn (d := d + 11) hN va 0 7).trans (by rw [h]))))
  · have e := (ex_chipTold (X := X) (d := d + 11) hN hM va).trans (by rw [ztold_1 h])
    refine zpair_M hM e ?_
    clear e
    obtain ⟨j, hj, rfl⟩ := zin_lit (k := 7) (by decide) h
    have hj : j = 0 ∨ j = 1 ∨ j = 2 ∨ j = 3 ∨ j = 4 ∨ j = 5 ∨ j = 6 ∨ j = 7 := by omega
    rcases hj with rfl | rfl | rfl | rfl | rfl | rfl | rfl | rfl
    · exact zev_SK (K := 18) (by omega) rfl rfl (Nat.le_of_ble_eq_true rfl) (fun n => m_chipTold_0 (h474 := hM.2.2.2.2.2.2.2.1) (hi := (e_isIn (d := d + 11) hN 0 0 7).trans rfl))
    · exact zev_SK (K := 18) (by omega) rfl rfl (Nat.le_of_ble_eq_true rfl) (fun n => m_chipTold_1 (h474 := hM.2.2.2.2.2.2.2.1) (hi := (e_isIn (d := d + 11) hN 1 0 7).trans rfl))
    · exact zev_SK (K := 18) (by omega) rfl rfl (Nat.le_of_ble_eq_true rfl) (fun n => m_chipTold_2 (h474 := hM.2.2.2.2.2.2.2.1) (hi := (e_isIn (d := d + 11) hN 2 0 7).trans rfl))
    · exact zev_SK (K := 18) (by omega) rfl rfl (Nat.le_of_ble_eq_true rfl) (fun n => m_chipTold_3 (h474 := hM.2.2.2.2.2.2.2.1) (hi := (e_isIn (d := d + 11) hN 3 0 7).trans rfl))
    · exact zev_SK (K := 18) (by omega) rfl rfl (Nat.le_of_ble_eq_true rfl) (fun n => m_chipTold_4 (h474 := hM.2.2.2.2.2.2.2.1) (hi := (e_isIn (d := d + 11) hN 4 0 7).trans rfl))
    · exact zev_SK (K := 18) (by omega) rfl rfl (Nat.le_of_ble_eq_true rfl) (fun n => m_chipTold_5 (h474 := hM.2.2.2.2.2.2.2.1) (hi := (e_isIn (d := d + 11) hN 5 0 7).trans rfl))
    · exact zev_SK (K := 17) (by omega) rfl rfl (Nat.le_of_ble_eq_true rfl) (fun n => m_chipTold_6 (h474 := hM.2.2.2.2.2.2.2.1) (hi := (e_isIn (d := d + 11) hN 6 0 7).trans rfl))
    · exact zev_SK (K := 18) (by omega) rfl rfl (Nat.le_of_ble_eq_true rfl) (fun n => m_chipTold_7 (h474 := hM.2.2.2.2.2.2.2.1) (hi := (e_isIn (d := d + 11) hN 7 0 7).trans rfl))
theorem p_again (hN : 1000 ≤ N) (hM : zNew M) (va vb : Int32) : zpair X N d 282 492 [.int va, .int vb] M := by
  obtain ⟨f4, q4, q40, q41⟩ := hM.2.2.2.2.2.2.2.2.2.2.2.2.1
  obtain ⟨f, q, u0, u1, u2, u3, u4⟩ := hM.2.2.2.2.2.2.2.2.2.2.2.2.2.1
  have hsm := e_systems (X := X) (d := d + 11) hN hM
  have i1 := fun v a b => e_isIn (X := X) (M := M) (d := d + 11) hN v a b
  rcases zin_01 vb 0 1 with h | h
  · refine zpair_M hM (zev_SK (K := 13) (by omega) rfl rfl (Nat.le_of_ble_eq_true rfl) (fun n => x_againB (h0 := hM.2.2.1) h)) ?_
    rcases zin_01 va 0 0 with h2 | h2
    · exact zev_SK (K := 10) (by omega) rfl rfl (Nat.le_of_ble_eq_true rfl) (fun n => m_again0 (h474 := hM.2.2.2.2.2.2.2.1) hsm ((i1 va 0 0).trans (by rw [h2])))
    · exact zev_SK (K := 15) (by omega) rfl rfl (Nat.le_of_ble_eq_true rfl) (fun n => m_again1 (h474 := hM.2.2.2.2.2.2.2.1) hsm ((i1 va 0 0).trans (by rw [h2])) ((i1 vb 0 1).trans (by rw [h])))
  · obtain ⟨j, hj, rfl⟩ := zin_lit (k := 1) (by decide) h
    have hj : j = 0 ∨ j = 1 := by omega
    rcases hj with rfl | rfl
    · refine zpair_M hM (zev_SK (K := 18) (by omega) rfl rfl (Nat.le_of_ble_eq_true rfl) (fun n => x_again0 (h0 := hM.2.2.1) q4 q40 q41)) ?_
      rcases zin_01 va 0 0 with h2 | h2
      · rw [zag_0 h2]
        exact zev_SK (K := 10) (by omega) rfl rfl (Nat.le_of_ble_eq_true rfl) (fun n => m_again0 (h474 := hM.2.2.2.2.2.2.2.1) hsm ((i1 va 0 0).trans (by rw [h2])))
      · rw [zag_2 h2 (by decide)]
        exact zev_SK (K := 26) (by omega) rfl rfl (Nat.le_of_ble_eq_true rfl) (fun n => m_again2_0 (h474 := hM.2.2.2.2.2.2.2.1) q u0 u1 u2 u3 u4 hsm ((i1 va 0 0).trans (by rw [h2])) ((i1 0 0 1).trans rfl))
    · refine zpair_M hM (zev_SK (K := 18) (by omega) rfl rfl (Nat.le_of_ble_eq_true rfl) (fun n => x_again1 (h0 := hM.2.2.1) q4 q40 q41)) ?_
      rcases zin_01 va 0 0 with h2 | h2
      · rw [zag_0 h2]
        exact zev_SK (K := 10) (by omega) rfl rfl (Nat.le_of_ble_eq_true rfl) (fun n => m_again0 (h474 := hM.2.2.2.2.2.2.2.1) hsm ((i1 va 0 0).trans (by rw [h2])))
      · rw [zag_2 h2 (by decide)]
        exact zev_SK (K := 26) (by omega) rfl rfl (Nat.le_of_ble_eq_true rfl) (fun n => m_again2_1 (h474 := hM.2.2.2.2.2.2.2.1) q u0 u1 u2 u3 u4 hsm ((i1 va 0 0).trans (by rw [h2])) ((i1 1 0 1).trans rfl))
end ZPAIR
