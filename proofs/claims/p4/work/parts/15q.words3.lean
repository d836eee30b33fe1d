theorem zwf_get {b i : Nat} : True := trivial
def zwC (M : zM) (o : Nat) : zM := zset (zwB12 M o) o (.inr (10, zwF M.1 0))
/-- the memory behind Words() -/
def zwEnd (M : zM) (o : Nat) : zM := zwM (zwC M o) o M.1 (zwAll 9)
theorem zwC_self {M : zM} {o : Nat} (h : zob M o = some (.inr (10, zdef 10 14))) : zwM (zwC M o) o M.1 zwS0 = zwC M o := by
  have ho := zob_lt h
  refine zwM_self (zob_set (zwB_12 h).2) ?_ ?_ ?_ ?_ ?_
  · exact (zob_set_ne (by omega)).trans (zwB_a2_12 h)
  · exact (zob_set_ne (by omega)).trans (zwB_a5_12 h)
  · exact (zob_set_ne (by omega)).trans (zwB_a1_12 h)
  · exact (zob_set_ne (by omega)).trans (zwB_a6_12 h)
  · exact (zob_set_ne (by omega)).trans (zwB_a7_12 h)
theorem zwC_1 {M : zM} {o : Nat} (h : zob M o = some (.inr (10, zdef 10 14))) : (zwC M o).1 = M.1 + 12 := (zwB_12 h).1
set_option maxHeartbeats 4000000 in
theorem words_init {X : zX} {call : zCall} {M : zM} {o n : Nat} (h : zob M o = some (.inr (10, zdef 10 14))) (hM : M.1 + 12 ≤ 1000000) (hadd : ∀ i, i < 9 → call 239 [.ref o, .ref (1000000 + i)] (zwM (zwC M o) o M.1 (zwAll i)) = some (none, zwM (zwC M o) o M.1 (zwAll (i + 1)))) : zrun X zmt call zm_238 (n + 81) 0 [(0, .ref o)] [] M = some (none, zwEnd M o) := by
  have ho := zob_lt h
  have hb : M.1 + 12 ≤ (zwC M o).1 := by rw [zwC_1 h]; exact Nat.le_refl _
  refine zr_s0 rfl rfl rfl rfl ?_
  refine zr_objinit rfl rfl (Nat.le_of_ble_eq_true rfl) ?_
  refine zr_s0 rfl rfl rfl rfl ?_
  refine zr_s0 rfl rfl rfl rfl ?_
  refine zr_newa (k := 1) (N := 360) (M := zwB0 M o) rfl rfl (by decide) (by decide) (by rw [(zwB_0 h).1]; omega) (by decide) ?_
  refine zr_put rfl rfl (zob_push_lt (zwB_0 h).2) rfl ⟨Nat.le_of_ble_eq_true rfl, Nat.le_of_ble_eq_true rfl, zfit_null (Or.inr ⟨_, rfl⟩) _, Or.inr ⟨rfl, rfl⟩⟩ ?_
  show zrun X zmt call zm_238 _ _ _ [] (zwB1 M o) = _
  refine zr_s0 rfl rfl rfl rfl ?_
  refine zr_s0 rfl rfl rfl rfl ?_
  refine zr_newa (k := 1) (N := 360) (M := zwB1 M o) rfl rfl (by decide) (by decide) (by rw [(zwB_1 h).1]; omega) (by decide) ?_
  refine zr_put rfl rfl (zob_push_lt (zwB_1 h).2) rfl ⟨Nat.le_of_ble_eq_true rfl, Nat.le_of_ble_eq_true rfl, zfit_null (Or.inr ⟨_, rfl⟩) _, Or.inr ⟨rfl, rfl⟩⟩ ?_
  show zrun X zmt call zm_238 _ _ _ [] (zwB2 M o) = _
  refine zr_s0 rfl rfl rfl rfl ?_
  refine zr_s0 rfl rfl rfl rfl ?_
  refine zr_newa (k := 1) (N := 360) (M := zwB2 M o) rfl rfl (by decide) (by decide) (by rw [(zwB_2 h).1]; omega) (by decide) ?_
  refine zr_put rfl rfl (zob_push_lt (zwB_2 h).2) rfl ⟨Nat.le_of_ble_eq_true rfl, Nat.le_of_ble_eq_true rfl, zfit_null (Or.inr ⟨_, rfl⟩) _, Or.inr ⟨rfl, rfl⟩⟩ ?_
  show zrun X zmt call zm_238 _ _ _ [] (zwB3 M o) = _
  refine zr_s0 rfl rfl rfl rfl ?_
  refine zr_s0 rfl rfl rfl rfl ?_
  refine zr_newa (k := 0) (N := 360) (M := zwB3 M o) rfl rfl (by decide) (by decide) (by rw [(zwB_3 h).1]; omega) (by decide) ?_
  refine zr_put rfl rfl (zob_push_lt (zwB_3 h).2) rfl ⟨Nat.le_of_ble_eq_true rfl, Nat.le_of_ble_eq_true rfl, zfit_null (Or.inr ⟨_, rfl⟩) _, Or.inr ⟨rfl, rfl⟩⟩ ?_
  show zrun X zmt call zm_238 _ _ _ [] (zwB4 M o) = _
  refine zr_s0 rfl rfl rfl rfl ?_
  refine zr_s0 rfl rfl rfl rfl ?_
  refine zr_newa (k := 0) (N := 360) (M := zwB4 M o) rfl rfl (by decide) (by decide) (by rw [(zwB_4 h).1]; omega) (by decide) ?_
  refine zr_put rfl rfl (zob_push_lt (zwB_4 h).2) rfl ⟨Nat.le_of_ble_eq_true rfl, Nat.le_of_ble_eq_true rfl, zfit_null (Or.inr ⟨_, rfl⟩) _, Or.inr ⟨rfl, rfl⟩⟩ ?_
  show zrun X zmt call zm_238 _ _ _ [] (zwB5 M o) = _
  refine zr_s0 rfl rfl rfl rfl ?_
  refine zr_s0 rfl rfl rfl rfl ?_
  refine zr_newa (k := 0) (N := 360) (M := zwB5 M o) rfl rfl (by decide) (by decide) (by rw [(zwB_5 h).1]; omega) (by decide) ?_
  refine zr_put rfl rfl (zob_push_lt (zwB_5 h).2) rfl ⟨Nat.le_of_ble_eq_true rfl, Nat.le_of_ble_eq_true rfl, zfit_null (Or.inr ⟨_, rfl⟩) _, Or.inr ⟨rfl, rfl⟩⟩ ?_
  show zrun X zmt call zm_238 _ _ _ [] (zwB6 M o) = _
  refine zr_s0 rfl rfl rfl rfl ?_
  refine zr_s0 rfl rfl rfl rfl ?_
  refine zr_newa (k := 1) (N := 360) (M := zwB6 M o) rfl rfl (by decide) (by decide) (by rw [(zwB_6 h).1]; omega) (by decide) ?_
  refine zr_put rfl rfl (zob_push_lt (zwB_6 h).2) rfl ⟨Nat.le_of_ble_eq_true rfl, Nat.le_of_ble_eq_true rfl, zfit_null (Or.inr ⟨_, rfl⟩) _, Or.inr ⟨rfl, rfl⟩⟩ ?_
  show zrun X zmt call zm_238 _ _ _ [] (zwB7 M o) = _
  refine zr_s0 rfl rfl rfl rfl ?_
  refine zr_s0 rfl rfl rfl rfl ?_
  refine zr_newa (k := 1) (N := 8640) (M := zwB7 M o) rfl rfl (by decide) (by decide) (by rw [(zwB_7 h).1]; omega) (by decide) ?_
  refine zr_put rfl rfl (zob_push_lt (zwB_7 h).2) rfl ⟨Nat.le_of_ble_eq_true rfl, Nat.le_of_ble_eq_true rfl, zfit_null (Or.inr ⟨_, rfl⟩) _, Or.inr ⟨rfl, rfl⟩⟩ ?_
  show zrun X zmt call zm_238 _ _ _ [] (zwB8 M o) = _
  refine zr_s0 rfl rfl rfl rfl ?_
  refine zr_s0 rfl rfl rfl rfl ?_
  refine zr_newa (k := 1) (N := 360) (M := zwB8 M o) rfl rfl (by decide) (by decide) (by rw [(zwB_8 h).1]; omega) (by decide) ?_
  refine zr_put rfl rfl (zob_push_lt (zwB_8 h).2) rfl ⟨Nat.le_of_ble_eq_true rfl, Nat.le_of_ble_eq_true rfl, zfit_null (Or.inr ⟨_, rfl⟩) _, Or.inr ⟨rfl, rfl⟩⟩ ?_
  show zrun X zmt call zm_238 _ _ _ [] (zwB9 M o) = _
  refine zr_s0 rfl rfl rfl rfl ?_
  refine zr_s0 rfl rfl rfl rfl ?_
  refine zr_newa (k := 0) (N := 360) (M := zwB9 M o) rfl rfl (by decide) (by decide) (by rw [(zwB_9 h).1]; omega) (by decide) ?_
  refine zr_put rfl rfl (zob_push_lt (zwB_9 h).2) rfl ⟨Nat.le_of_ble_eq_true rfl, Nat.le_of_ble_eq_true rfl, zfit_null (Or.inr ⟨_, rfl⟩) _, Or.inr ⟨rfl, rfl⟩⟩ ?_
  show zrun X zmt call zm_238 _ _ _ [] (zwB10 M o) = _
  refine zr_s0 rfl rfl rfl rfl ?_
  refine zr_s0 rfl rfl rfl rfl ?_
  refine zr_newa (k := 0) (N := 360) (M := zwB10 M o) rfl rfl (by decide) (by decide) (by rw [(zwB_10 h).1]; omega) (by decide) ?_
  refine zr_put rfl rfl (zob_push_lt (zwB_10 h).2) rfl ⟨Nat.le_of_ble_eq_true rfl, Nat.le_of_ble_eq_true rfl, zfit_null (Or.inr ⟨_, rfl⟩) _, Or.inr ⟨rfl, rfl⟩⟩ ?_
  show zrun X zmt call zm_238 _ _ _ [] (zwB11 M o) = _
  refine zr_s0 rfl rfl rfl rfl ?_
  refine zr_s0 rfl rfl rfl rfl ?_
  refine zr_newa (k := 0) (N := 360) (M := zwB11 M o) rfl rfl (by decide) (by decide) (by rw [(zwB_11 h).1]; omega) (by decide) ?_
  refine zr_put rfl rfl (zob_push_lt (zwB_11 h).2) rfl ⟨Nat.le_of_ble_eq_true rfl, Nat.le_of_ble_eq_true rfl, zfit_null (Or.inr ⟨_, rfl⟩) _, Or.inr ⟨rfl, rfl⟩⟩ ?_
  show zrun X zmt call zm_238 _ _ _ [] (zwB12 M o) = _
  refine zr_s0 rfl rfl rfl rfl ?_
  refine zr_s0 rfl rfl rfl rfl ?_
  refine zr_put rfl rfl (zwB_12 h).2 rfl ⟨Nat.le_of_ble_eq_true rfl, Nat.le_of_ble_eq_true rfl, zfit_int _, Or.inl rfl⟩ ?_
  show zrun X zmt call zm_238 _ _ _ [] (zwC M o) = _
  rw [← zwC_self h]
  refine zr_s0 rfl rfl rfl rfl ?_
  refine zr_s1 rfl rfl rfl rfl rfl ?_
  refine zr_callV rfl rfl rfl rfl (by omega) (zw_o ho hb) rfl ⟨Or.inl rfl, rfl, rfl, rfl, rfl, rfl, Nat.le_of_ble_eq_true rfl⟩ (hadd 0 (by decide)) ?_
  refine zr_s0 rfl rfl rfl rfl ?_
  refine zr_s1 rfl rfl rfl rfl rfl ?_
  refine zr_callV rfl rfl rfl rfl (by omega) (zw_o ho hb) rfl ⟨Or.inl rfl, rfl, rfl, rfl, rfl, rfl, Nat.le_of_ble_eq_true rfl⟩ (hadd 1 (by decide)) ?_
  refine zr_s0 rfl rfl rfl rfl ?_
  refine zr_s1 rfl rfl rfl rfl rfl ?_
  refine zr_callV rfl rfl rfl rfl (by omega) (zw_o ho hb) rfl ⟨Or.inl rfl, rfl, rfl, rfl, rfl, rfl, Nat.le_of_ble_eq_true rfl⟩ (hadd 2 (by decide)) ?_
  refine zr_s0 rfl rfl rfl rfl ?_
  refine zr_s1 rfl rfl rfl rfl rfl ?_
  refine zr_callV rfl rfl rfl rfl (by omega) (zw_o ho hb) rfl ⟨Or.inl rfl, rfl, rfl, rfl, rfl, rfl, Nat.le_of_ble_eq_true rfl⟩ (hadd 3 (by decide)) ?_
  refine zr_s0 rfl rfl rfl rfl ?_
  refine zr_s1 rfl rfl rfl rfl rfl ?_
  refine zr_callV rfl rfl rfl rfl (by omega) (zw_o ho hb) rfl ⟨Or.inl rfl, rfl, rfl, rfl, rfl, rfl, Nat.le_of_ble_eq_true rfl⟩ (hadd 4 (by decide)) ?_
  refine zr_s0 rfl rfl rfl rfl ?_
  refine zr_s1 rfl rfl rfl rfl rfl ?_
  refine zr_callV rfl rfl rfl rfl (by omega) (zw_o ho hb) rfl ⟨Or.inl rfl, rfl, rfl, rfl, rfl, rfl, Nat.le_of_ble_eq_true rfl⟩ (hadd 5 (by decide)) ?_
  refine zr_s0 rfl rfl rfl rfl ?_
  refine zr_s1 rfl rfl rfl rfl rfl ?_
  refine zr_callV rfl rfl rfl rfl (by omega) (zw_o ho hb) rfl ⟨Or.inl rfl, rfl, rfl, rfl, rfl, rfl, Nat.le_of_ble_eq_true rfl⟩ (hadd 6 (by decide)) ?_
  refine zr_s0 rfl rfl rfl rfl ?_
  refine zr_s1 rfl rfl rfl rfl rfl ?_
  refine zr_callV rfl rfl rfl rfl (by omega) (zw_o ho hb) rfl ⟨Or.inl rfl, rfl, rfl, rfl, rfl, rfl, Nat.le_of_ble_eq_true rfl⟩ (hadd 7 (by decide)) ?_
  refine zr_s0 rfl rfl rfl rfl ?_
  refine zr_s1 rfl rfl rfl rfl rfl ?_
  refine zr_callV rfl rfl rfl rfl (by omega) (zw_o ho hb) rfl ⟨Or.inl rfl, rfl, rfl, rfl, rfl, rfl, Nat.le_of_ble_eq_true rfl⟩ (hadd 8 (by decide)) ?_
  exact zr_ret rfl rfl rfl
def zwN : Nat → Nat
  | 0 => 0
  | i + 1 => zwN i + ((zsb i).filter (fun c => decide (c = 32))).length
theorem zwAll_N : ∀ i, (zwAll i).1 = zwN i := by
  intro i
  induction i with
  | zero => rfl
  | succ i ih =>
    show (zal (zwAll i) (zsb i)).1 = zwN i + _
    rw [zal_app, ih]
theorem zw_lines : ∀ i, i < 9 → zgood (zsb i) (zwN i) 0 = true ∧ zrest (zsb i) 0 = 0 := by decide +kernel
theorem zwAll_ok : ∀ i, i < 10 → zwInv (zwAll i) 0 := by
  intro i
  induction i with
  | zero => exact fun _ => ⟨rfl, fun _ _ => rfl⟩
  | succ i ih =>
    intro hi
    obtain ⟨h2, h3⟩ := zw_lines i (by omega)
    rw [← zwAll_N] at h2
    have := zal_inv (zsb i) (zwAll i) 0 (ih (by omega)) h2 (by decide)
    rw [h3] at this
    exact this
theorem zovS_L {q : Nat} {M : zM} (hq : 1000000 ≤ q ∧ q < 1000013) (hM : M.1 ≤ 1000000) : zovS 501 [.ref q] M = some (some (.int (nI (zsb (q - 1000000)).length)), M) := by
  unfold zovS
  rw [if_pos rfl]
  dsimp only
  rw [if_pos ⟨hq.1, hq.2, hM⟩]
theorem zovS_C {q k : Nat} {M : zM} (hq : 1000000 ≤ q ∧ q < 1000013) (hM : M.1 ≤ 1000000) (hk : k < (zsb (q - 1000000)).length) (hk2 : k < 2 ^ 31) : zovS 502 [.ref q, .int (nI k)] M = some (some (.int ((zsb (q - 1000000)).getD k 0)), M) := by
  unfold zovS
  rw [if_neg (by decide), if_pos rfl]
  dsimp only
  rw [nI_clamp hk2, if_pos ⟨hq, hM, nI_pos hk2, hk⟩]
theorem zev_addLine {X : zX} {M : zM} {o b i d n : Nat} (ho : o < b) (hb : b + 12 ≤ M.1) (hM : M.1 ≤ 1000000) (hi : i < 9) (hn : 42 * (zsb i).length + 7 ≤ n) (hd : 8 ≤ d) : zev 8 X zmt zovS (d + 1) n 239 [.ref o, .ref (1000000 + i)] (zwM M o b (zwAll i)) = some (none, zwM M o b (zwAll (i + 1))) := by
  obtain ⟨c1, c2⟩ := zsb_char i (by omega)
  obtain ⟨h2, h3⟩ := zw_lines i hi
  rw [← zwAll_N] at h2
  have hq : @LE.le Nat _ 1000000 (1000000 + i) ∧ @LT.lt Nat _ (1000000 + i) 1000013 := by omega
  have e : 1000000 + i - 1000000 = i := by omega
  obtain ⟨n, rfl⟩ : ∃ n', n = n' + 2 := ⟨n - 2, by omega⟩
  obtain ⟨d, rfl⟩ : ∃ d', d = d' + 1 := ⟨d - 1, by omega⟩
  refine zev_S rfl rfl (Nat.le_of_ble_eq_true rfl) ?_
  refine zr_s0 rfl rfl rfl rfl ?_
  refine zr_s0 rfl rfl rfl rfl ?_
  exact addLine_loop ho hb hM (zsb i) c1 (fun M' hM' => zev_ovS (by rw [zovS_L hq hM', e]) hd) (fun M' k hM' hk => zev_ovS (by rw [zovS_C hq hM' (by rw [e]; exact hk) (Nat.lt_trans hk c1), e]) hd) hq (zsb i) 0 0 (zwAll i) (Nat.zero_le _) rfl (zwAll_ok i (by omega)) h2 (by decide) n (by omega)
theorem zev_Words {X : zX} {M : zM} {o d n : Nat} (h : zob M o = some (.inr (10, zdef 10 14))) (hM : M.1 + 12 ≤ 1000000) (hd : 8 ≤ d) (hn : 42 * 400 + 7 ≤ n) : zev 8 X zmt zovS (d + 2) n 238 [.ref o] M = some (none, zwEnd M o) := by
  have ho := zob_lt h
  obtain ⟨n', rfl⟩ : ∃ n', n = n' + 81 := ⟨n - 81, by omega⟩
  refine zev_S rfl rfl (Nat.le_of_ble_eq_true rfl) (words_init h hM ?_)
  intro i hi
  have hl : (zsb i).length ≤ 400 := by
    have : ∀ i, i < 9 → (zsb i).length ≤ 400 := by decide +kernel
    exact this i hi
  exact zev_addLine ho (by rw [zwC_1 h]; exact Nat.le_refl _) (by rw [zwC_1 h]; exact hM) hi (by omega) hd
