theorem zwf_get {b i : Nat} : True := trivial
def zwC (M : zM) (o : Nat) : zM := zset (zwB12 M o) o (.inr (10, zwF M.1 0))
/-- the memory behind Words() -/
def zwEnd (M : zM) (o : Nat) : zM := zwM (zwC M o) o M.1 (zwAll 9)
theorem zwC_self {M : zM} {o : Nat} (h : zob M o = some (.inr (10, zdef 10 14))) : zwM (zwC M o) o M.1 zwS0 = zwC M o := by
  have ho := zob_lt h
  refine zwM_self (zob_set (zwB_12 h).2) ?_ ?_ ?_ ?_ ?_
  · exact (zob_set_ne (by omega)).trans (zwB_a2_12 h)
  · exact (zob_set_ne (by omega)).trans (zwB_a5_12 h)
  · exact (zob_set_ne (by omega)).trans (zwB_a1_12 h)
  · exact (zob_set_ne (by omega)).trans (zwB_a6_12 h)
  · exact (zob_set_ne (by omega)).trans (zwB_a7_12 h)
theorem zwC_1 {M : zM} {o : Nat} (h : zob M o = some (.inr (10, zdef 10 14))) : (zwC M o).1 = M.1 + 12 := (zwB_12 h).1
set_option maxHeartbeats 4000000 in
theorem words_init {X : zX} {call : zCall} {M : zM} {o n : Nat} (h : zob M o = some (.inr (10, zdef 10 14))) (hM : M.1 + 12 ≤ 1000000) (hadd : ∀ i, i < 9 → call 239 [.ref o, .ref (1000000 + i)] (zwM (zwC M o) o M.1 (zwAll i)) = some (none, zwM (zwC M o) o M.1 (zwAll (i + 1)))) : zrun X zmt call zm_238 (n + 81) 0 [(0, .ref o)] [] M = some (none, zwEnd M o) := by
  have ho := zob_lt h
  have hb : M.1 + 12 ≤ (zwC M o).1 := by rw [zwC_1 h]; exact Nat.le_refl _
  refine zr_s0 rfl rfl rfl rfl ?_
  refine zr_objinit rfl rfl (Nat.le_of_ble_eq_true rfl) ?_
  refine zr_s0 rfl rfl rfl rfl ?_
  refine zr_s0 rfl rfl rfl rfl ?_
  refine zr_newa (k := 1) (N := 360) (M := zwB0 M o) rfl rfl (by decide) (by decide) (by rw [(zwB_0 h).1]; omega) (by decide) ?_
  refine zr_put rfl rfl (zob_push_lt (zwB_0 h).2) rfl ⟨Nat.le_of_ble_eq_true rfl, Nat.le_of_ble_eq_true rfl, zfit_null (Or.inr ⟨_, rfl⟩) _, Or.inr ⟨rfl, rfl⟩⟩ ?_
  show zrun X zmt call zm_238 _ _ _ [] (zwB1 M o) = _
  refine zr_s0 rfl rfl rfl rfl ?_
  refine zr_s0 rfl rfl rfl rfl ?_
  refine zr_newa (k := 1) (N := 360) (M := zwB1 M o) rfl rfl (by decide) (by decide) (by rw [(zwB_1 h).1]; omega) (by decide) ?_
  refine zr_put rfl rfl (zob_push_lt (zwB_1 h).2) rfl ⟨Nat.le_of_ble_eq_true rfl, Nat.le_of_ble_eq_true rfl, zfit_null (Or.inr ⟨_, rfl⟩) _, Or.inr ⟨rfl, rfl⟩⟩ ?_
  show zrun X zmt call zm_238 _ _ _ [] (zwB2 M o) = _
  refine zr_s0 rfl rfl rfl rfl ?_
  refine zr_s0 rfl rfl rfl rfl ?_
  refine zr_newa (k := 1) (N := 360) (M := zwB2 M o) rfl rfl (by decide) (by decide) (by rw [(zwB_2 h).1]; omega) (by decide) ?_
  refine zr_put rfl rfl (zob_push_lt (zwB_2 h).2) rfl ⟨Nat.le_of_ble_eq_true rfl, Nat.le_of_ble_eq_true rfl, zfit_null (Or.inr ⟨_, rfl⟩) _, Or.inr ⟨rfl, rfl⟩⟩ ?_
  show zrun X zmt call zm_238 _ _ _ [] (zwB3 M o) = _
  refine zr_s0 rfl rfl rfl rfl ?_
  refine zr_s0 rfl rfl rfl rfl ?_
  refine zr_newa (k := 0) (N := 360) (M := zwB3 M o) rfl rfl (by decide) (by decide) (by rw [(zwB_3 h).1]; omega) (by decide) ?_
  refine zr_put rfl rfl (zob_push_lt (zwB_3 h).2) rfl ⟨Nat.le_of_ble_eq_true rfl, Nat.le_of_ble_eq_true rfl, zfit_null (Or.inr ⟨_, rfl⟩) _, Or.inr ⟨rfl, rfl⟩⟩ ?_
  show zrun X zmt call zm_238 _ _ _ [] (zwB4 M o) = _
  refine zr_s0 rfl rfl rfl rfl ?_
  refine zr_s0 rfl rfl rfl rfl ?_
  refine zr_newa (k := 0) (N := 360) (M := zwB4 M o) rfl rfl (by decide) (by decide) (by rw [(zwB_4 h).1]; omega) (by decide) ?_
  refine zr_put rfl rfl (zob_push_lt (zwB_4 h).2) rfl ⟨Nat.le_of_ble_eq_true rfl, Nat.le_of_ble_eq_true rfl, zfit_null (Or.inr ⟨_, rfl⟩) _, Or.inr ⟨rfl, rfl⟩⟩ ?_
  show zrun X zmt call zm_238 _ _ _ [] (zwB5 M o) = _
  refine zr_s0 rfl rfl rfl rfl ?_
  refine zr_s0 rfl rfl rfl rfl ?_
  refine zr_newa (k := 0) (N := 360) (M := zwB5 M o) rfl rfl (by decide) (by decide) (by rw [(zwB_5 h).1]; omega) (by decide) ?_
  refine zr_put rfl rfl (zob_push_lt (zwB_5 h).2) rfl ⟨Nat.le_of_ble_eq_true rfl, Nat.le_of_ble_eq_true rfl, zfit_null (Or.inr ⟨_, rfl⟩) _, Or.inr ⟨rfl, rfl⟩⟩ ?_
  show zrun X zmt call zm_238 _ _ _ [] (zwB6 M o) = _
  refine zr_s0 rfl rfl rfl rfl ?_
  refine zr_s0 rfl rfl rfl rfl ?_
  refine zr_newa (k := 1) (N := 360) (M := zwB6 M o) rfl rfl (by decide) (by decide) (by rw [(zwB_6 h).1]; omega) (by decide) ?_
  refine zr_put rfl rfl (zob_push_lt (zwB_6 h).2) rfl ⟨Nat.le_of_ble_eq_true rfl, Nat.le_of_ble_eq_true rfl, zfit_null (Or.inr ⟨_, rfl⟩) _, Or.inr ⟨rfl, rfl⟩⟩ ?_
  show zrun X zmt call zm_238 _ _ _ [] (zwB7 M o) = _
  refine zr_s0 rfl rfl rfl rfl ?_
  refine zr_s0 rfl rfl rfl rfl ?_
  refine zr_newa (k := 1) (N := 8640) (M := zwB7 M o) rfl rfl (by decide) (by decide) (by rw [(zwB_7 h).1]; omega) (by decide) ?_
  refine zr_put rfl rfl (zob_push_lt (zwB_7 h).2) rfl ⟨Nat.le_of_ble_eq_true rfl, Nat.le_of_ble_eq_true rfl, zfit_null (Or.inr ⟨_, rfl⟩) _, Or.inr ⟨rfl, rfl⟩⟩ ?_
  show zrun X zmt call zm_238 _ _ _ [] (zwB8 M o) = _
  refine zr_s0 rfl rfl rfl rfl ?_
  refine zr_s0 rfl rfl rfl rfl ?_
  refine zr_newa (k := 1) (N := 360) (M := zwB8 M o) rfl rfl (by decide) (by decide) (by rw [(zwB_8 h).1]; omega) (by decide) ?_
  refine zr_put rfl rfl (zob_push_lt (zwB_8 h).2) rfl ⟨Nat.le_of_ble_eq_true rfl, Nat.le_of_ble_eq_true rfl, zfit_null (Or.inr ⟨_, rfl⟩) _, Or.inr ⟨rfl, rfl⟩⟩ ?_
  show zrun X zmt call zm_238 _ _ _ [] (zwB9 M o) = _
  refine zr_s0 rfl rfl rfl rfl ?_
  refine zr_s0 rfl rfl rfl rfl ?_
  refine zr_newa (k := 0) (N := 360) (M := zwB9 M o) rfl rfl (by decide) (by decide) (by rw [(zwB_9 h).1]; omega) (by decide) ?_
  refine zr_put rfl rfl (zob_push_lt (zwB_9 h).2) rfl ⟨Nat.le_of_ble_eq_true rfl, Nat.le_of_ble_eq_true rfl, zfit_null (Or.inr ⟨_, rfl⟩) _, Or.inr ⟨rfl, rfl⟩⟩ ?_
  show zrun X zmt call zm_238 _ _ _ [] (zwB10 M o) = _
  refine zr_s0 rfl rfl rfl rfl ?_
  refine zr_s0 rfl rfl rfl rfl ?_
  refine zr_newa (k := 0) (N := 360) (M := zwB10 M o) rfl rfl (by decide) (by decide) (by rw [(zwB_10 h).1]; omega) (by decide) ?_
  refine zr_put rfl rfl (zob_push_lt (zwB_10 h).2) rfl ⟨Nat.le_of_ble_eq_true rfl, Nat.le_of_ble_eq_true rfl, zfit_null (Or.inr ⟨_, rfl⟩) _, Or.inr ⟨rfl, rfl⟩⟩ ?_
  show zrun X zmt call zm_238 _ _ _ [] (zwB11 M o) = _
  refine zr_s0 rfl rfl rfl rfl ?_
  refine zr_s0 rfl rfl rfl rfl ?_
  refine zr_newa (k := 0) (N := 360) (M := zwB11 M o) rfl rfl (by decide) (by decide) (by rw [(zwB_11 h).1]; omega) (by decide) ?_
  refine zr_put rfl rfl (zob_push_lt (zwB_11 h).2) rfl ⟨Nat.le_of_ble_eq_true rfl, Nat.le_of_ble_eq_true rfl, zfit_null (Or.inr ⟨_, rfl⟩) _, Or.inr ⟨rfl, rfl⟩⟩ ?_
  show zrun X zmt call zm_238 _ _ _ [] (zwB12 M o) = _
  refine zr_s0 rfl rfl rfl rfl ?_
  refine zr_s0 rfl rfl rfl rfl ?_
  refine zr_put rfl rfl (zwB_12 h).2 rfl ⟨Nat.le_of_ble_eq_true rfl, Nat.le_of_ble_eq_true rfl, zfit_int _, Or.inl rfl⟩ ?_
  show zrun X zmt call zm_238 _ _ _ [] (zwC M o) = _
  rw [← zwC_self h]
  refine zr_s0 rfl rfl rfl rfl ?_
  refine zr_s1 rfl rfl rfl rfl rfl ?_
  refine zr_callV rfl rfl rfl rfl (by omega) (zw_o ho hb) rfl ⟨Or.inl rfl, rfl, rfl, rfl, rfl, rfl, Nat.le_of_ble_eq_true rfl⟩ (hadd 0 (by decide)) ?_
  refine zr_s0 rfl rfl rfl rfl ?_
  refine zr_s1 rfl rfl rfl rfl rfl ?_
  refine zr_callV rfl rfl rfl rfl (by omega) (zw_o ho hb) rfl ⟨Or.inl rfl, rfl, rfl, rfl, rfl, rfl, Nat.le_of_ble_eq_true rfl⟩ (hadd 1 (by decide)) ?_
  refine zr_s0 rfl rfl rfl rfl ?_
  refine zr_s1 rfl rfl rfl rfl rfl ?_
  refine zr_callV rfl rfl rfl rfl (by omega) (zw_o ho hb) rfl ⟨Or.inl rfl, rfl, rfl, rfl, rfl, rfl, Nat.le_of_ble_eq_true rfl⟩ (hadd 2 (by decide)) ?_
  refine zr_s0 rfl rfl rfl rfl ?_
  refine zr_s1 rfl rfl rfl rfl rfl ?_
  refine zr_callV rfl rfl rfl rfl (by omega) (zw_o ho hb) rfl ⟨Or.inl rfl, rfl, rfl, rfl, rfl, rfl, Nat.le_of_ble_eq_true rfl⟩ (hadd 3 (by decide)) ?_
  refine zr_s0 rfl rfl rfl rfl ?_
  refine zr_s1 rfl rfl rfl rfl rfl ?_
  refine zr_callV rfl rfl rfl rfl (by omega) (zw_o ho hb) rfl ⟨Or.inl rfl, rfl, rfl, rfl, rfl, rfl, Nat.le_of_ble_eq_true rfl⟩ (hadd 4 (by decide)) ?_
  refine zr_s0 rfl rfl rfl rfl ?_
  refine zr_s1 rfl rfl rfl rfl rfl ?_
  refine zr_callV rfl rfl rfl rfl (by omega) (zw_o ho hb) rfl ⟨Or.inl rfl, rfl, rfl, rfl, rfl, rfl, Nat.le_of_ble_eq_true rfl⟩ (hadd 5 (by decide)) ?_
  refine zr_s0 rfl rfl rfl rfl ?_
  refine zr_s1 rfl rfl rfl rfl rfl ?_
  refine zr_callV rfl rfl rfl rfl (by omega) (zw_o ho hb) rfl ⟨Or.inl rfl, rfl, rfl, rfl, rfl, rfl, Nat.le_of_ble_eq_true rfl⟩ (hadd 6 (by decide)) ?_
  refine zr_s0 rfl rfl rfl rfl ?_
  refine zr_s1 rfl rfl rfl rfl rfl ?_
  refine zr_callV rfl rfl rfl rfl (by omega) (zw_o ho hb) rfl ⟨Or.inl rfl, rfl, rfl, rfl, rfl, rfl, Nat.le_of_ble_eq_true rfl⟩ (hadd 7 (by decide)) ?_
  refine zr_s0 rfl rfl rfl rfl ?_
  refine zr_s1 rfl rfl rfl rfl rfl ?_
  refine zr_callV rfl rfl rfl rfl (by omega) (zw_o ho hb) rfl ⟨Or.inl rfl, rfl, rfl, rfl, rfl, rfl, Nat.le_of_ble_eq_true rfl⟩ (hadd 8 (by decide)) ?_
  exact zr_ret rfl rfl rfl
theorem zwAll_ok : ∀ i, i < 10 → zwInv (zwAll i) 0 := by
  have h0 : ∀ i, i < 9 → zwInv (zwAll i) 0 → zgood (zsb i) (zwAll i).1 0 = true → zrest (zsb i) 0 = 0 → zwInv (zwAll (i + 1)) 0 := fun i _ h1 h2 h3 => by
    have := zal_inv (zsb i) (zwAll i) 0 h1 h2 (by decide)
    rw [h3] at this
    exact this
  sorry
