/-! THE LAW'S RUN, and the claim's walk -/
def zlc (X : zX) : zCall := fun a av M => if a = 253 ∨ a = 455 then zev 10 X zmt zovT 14 1000 a av M else zev 10 X zmt zovT 14 1000000 a av M
theorem zlc_ok {l : Launch} {base : Nat} {ex : Nat → Nat} {dC : Nat → ClassId} {dI : Nat → Nat → Nat} {X : zX} : ∀ a av M v M', zlc X a av M = some (v, M') → ∀ r, zmt a = some r → zMet l base ex dC dI X 14 r av M v M' := by
  intro a av M v M' h
  unfold zlc at h
  by_cases q : a = 253 ∨ a = 455
  · rw [if_pos q] at h
    exact zev_ok zmt_ok zovT_ok _ _ _ _ _ _ _ h
  · rw [if_neg q] at h
    exact zev_ok zmt_ok zovT_ok _ _ _ _ _ _ _ h
theorem zlc_mono {l : Launch} {base : Nat} {ex : Nat → Nat} {dC : Nat → ClassId} {dI : Nat → Nat → Nat} {X : zX} : ∀ a av M v M', zlc X a av M = some (v, M') → M.1 ≤ M'.1 ∧ M.2.1 ≤ M'.2.1 := by
  intro a av M v M' h
  have hov := zovT_ok (l := l) (base := base) (ex := ex) (dC := dC) (dI := dI) (X := X)
  unfold zlc at h
  by_cases q : a = 253 ∨ a = 455
  · rw [if_pos q] at h
    exact zev_mono hov _ _ _ _ _ _ _ h
  · rw [if_neg q] at h
    exact zev_mono hov _ _ _ _ _ _ _ h
theorem zchk_inv {f : zM → Bool} {r : Option (Option Value × zM)} (h : zchk f r = true) : ∃ M, r = some (none, M) ∧ f M = true := by
  unfold zchk at h
  split at h
  · exact ⟨_, rfl, h⟩
  · cases h
theorem law_ctors {X : zX} {z : Nat} (hz : X.2.2 = z) (h01 : z = 0 ∨ z = 1) : ∃ Ma Mb, zlc X 253 [.ref 0] zM1 = some (none, Ma) ∧ Ma.1 = 474 ∧ zlc X 455 [.ref 474] (zpush Ma (.inr (12, zdef 12 35))) = some (none, Mb) ∧ zNew Mb := by
  have key : ∀ z : Nat, X.2.2 = z → zchk (zk1 z) (zev 10 (zX0 z) zmt zovT 14 1000 253 [.ref 0] zM1) = true → ∃ Ma Mb, zlc X 253 [.ref 0] zM1 = some (none, Ma) ∧ Ma.1 = 474 ∧ zlc X 455 [.ref 474] (zpush Ma (.inr (12, zdef 12 35))) = some (none, Mb) ∧ zNew Mb := by
    intro z hz h
    have hz' : X.2.2 = 0 ↔ z = 0 := by rw [hz]
    obtain ⟨Ma, e1, e2⟩ := zchk_inv h
    unfold zk1 at e2
    rw [Bool.and_eq_true] at e2
    obtain ⟨e2, e3⟩ := e2
    obtain ⟨Mb, e4, e5⟩ := zchk_inv e3
    exact ⟨Ma, Mb, (if_pos (Or.inl rfl)).trans (zev_X hz' _ _ _ _ _ _ e1), Nat.eq_of_beq_eq_true e2, (if_pos (Or.inr rfl)).trans (zev_X hz' _ _ _ _ _ _ e4), zk2_new e5⟩
  rcases h01 with rfl | rfl
  · exact key 0 hz ctors_0
  · exact key 1 hz ctors_1
theorem law_begin {X : zX} {call : zCall} {Ma Mb : zM} {res : Option (Option Value × zM)} (hM : Ma.1 = 474) (h1 : call 253 [.ref 0] zM1 = some (none, Ma)) (h2 : call 455 [.ref 474] (zpush Ma (.inr (12, zdef 12 35))) = some (none, Mb)) {n : Nat} (h : zrun X zmt call zlaw n 18 (zls (Int32.ofInt 0)) [] Mb = res) : zrun X zmt call zlaw (n + 10) 0 [(0, .ref 1000016)] [] zM0 = res := by
  obtain ⟨ka, sa, fa⟩ := Ma
  have hM : ka = 474 := hM
  subst hM
  refine zr_s1 (M' := zM1) rfl rfl rfl rfl rfl ?_
  refine zr_s0 rfl rfl rfl rfl ?_
  refine zr_callI rfl rfl rfl rfl ⟨Or.inl rfl, rfl, rfl, rfl, rfl, Nat.le_of_ble_eq_true rfl⟩ h1 ?_
  refine zr_s0 rfl rfl rfl rfl ?_
  refine zr_s1 (M' := zpush (474, sa, fa) (.inr (12, zdef 12 35))) rfl rfl rfl rfl rfl ?_
  refine zr_s0 rfl rfl rfl rfl ?_
  refine zr_callI rfl rfl rfl rfl ⟨Or.inl rfl, rfl, rfl, rfl, rfl, Nat.le_of_ble_eq_true rfl⟩ h2 ?_
  refine zr_s0 rfl rfl rfl rfl ?_
  refine zr_s0 rfl rfl rfl rfl ?_
  refine zr_s0 rfl rfl rfl rfl ?_
  exact h
theorem zlc_of {X : zX} {a : Nat} {av : List Value} {M : zM} {q : Option Value × zM} (ha : ¬ (a = 253 ∨ a = 455)) (h : zev 10 X zmt zovT (1 + 13) 1000000 a av M = some q) : zlc X a av M = some q := (if_neg ha).trans h
theorem law_loop {X : zX} {M : zM} (hL : X.1 ≤ 5) (hM : zNew M) : ∃ n M', zrun X zmt (zlc X) zlaw n 18 (zls (Int32.ofInt 0)) [] M = some (some (.int 1), M') ∧ M'.1 = 486 ∧ M'.2.1 ≤ 7000000 := by
  have hN : 1000 ≤ 1000000 := Nat.le_of_ble_eq_true rfl
  have h0 := hM.2.2.1
  by_cases hX : X.1 < 5
  · exact ⟨8, M, law_short (n := 0) hX, hM.1, hM.2.1⟩
  · have hX : X.1 = 5 := by omega
    obtain ⟨j, hj, e⟩ := pk_andE (X.2.1 0) (m := (Int8.ofInt 31).toInt32) 5 (by decide)
    have hj : j < 32 := hj
    have hj : j = 0 ∨ j = 1 ∨ j = 2 ∨ j = 3 ∨ j = 4 ∨ j = 5 ∨ j = 6 ∨ j = 7 ∨ j = 8 ∨ j = 9 ∨ j = 10 ∨ j = 11 ∨ j = 12 ∨ j = 13 ∨ j = 14 ∨ j = 15 ∨ j = 16 ∨ j = 17 ∨ j = 18 ∨ j = 19 ∨ j = 20 ∨ j = 21 ∨ j = 22 ∨ j = 23 ∨ j = 24 ∨ j = 25 ∨ j = 26 ∨ j = 27 ∨ j = 28 ∨ j = 29 ∨ j = 30 ∨ j = 31 := by omega
    rcases hj with rfl | rfl | rfl | rfl | rfl | rfl | rfl | rfl | rfl | rfl | rfl | rfl | rfl | rfl | rfl | rfl | rfl | rfl | rfl | rfl | rfl | rfl | rfl | rfl | rfl | rfl | rfl | rfl | rfl | rfl | rfl | rfl
    · obtain ⟨r, M1, M2, h1, h2, h3, h4, h5⟩ := p_type (X := X) (N := 1000000) (d := 1) (Nat.le_of_ble_eq_true rfl) hM (((X.2.1 1).toInt64 <<< ((Int8.ofInt 32).toInt32.toInt64 &&& 63)) ||| ((X.2.1 2).toInt64 &&& Int64.ofNat 4294967295)) (X.2.1 3)
      exact ⟨_, M2, law_at hX e rfl (law_c0 (n := 0) hX h0 h3 (zlc_of (by decide) h1) (zlc_of (by decide) h2)), h4, h5⟩
    · obtain ⟨r, M1, M2, h1, h2, h3, h4, h5⟩ := p_wipe (X := X) (N := 1000000) (d := 1) (Nat.le_of_ble_eq_true rfl) hM 
      exact ⟨_, M2, law_at hX e rfl (law_c1 (n := 0) hX h0 h3 (zlc_of (by decide) h1) (zlc_of (by decide) h2)), h4, h5⟩
    · obtain ⟨r, M1, M2, h1, h2, h3, h4, h5⟩ := p_system (X := X) (N := 1000000) (d := 1) (Nat.le_of_ble_eq_true rfl) hM (X.2.1 1) (X.2.1 2)
      exact ⟨_, M2, law_at hX e rfl (law_c2 (n := 0) hX h0 h3 (zlc_of (by decide) h1) (zlc_of (by decide) h2)), h4, h5⟩
    · obtain ⟨r, M1, M2, h1, h2, h3, h4, h5⟩ := p_evaluate (X := X) (N := 1000000) (d := 1) (Nat.le_of_ble_eq_true rfl) hM (X.2.1 1) (X.2.1 2)
      exact ⟨_, M2, law_at hX e rfl (law_c3 (n := 0) hX h0 h3 (zlc_of (by decide) h1) (zlc_of (by decide) h2)), h4, h5⟩
    · obtain ⟨r, M1, M2, h1, h2, h3, h4, h5⟩ := p_go (X := X) (N := 1000000) (d := 1) (Nat.le_of_ble_eq_true rfl) hM (X.2.1 1) (X.2.1 2)
      exact ⟨_, M2, law_at hX e rfl (law_c4 (n := 0) hX h0 h3 (zlc_of (by decide) h1) (zlc_of (by decide) h2)), h4, h5⟩
    · obtain ⟨r, M1, M2, h1, h2, h3, h4, h5⟩ := p_out (X := X) (N := 1000000) (d := 1) (Nat.le_of_ble_eq_true rfl) hM (X.2.1 1) (X.2.1 2)
      exact ⟨_, M2, law_at hX e rfl (law_c5 (n := 0) hX h0 h3 (zlc_of (by decide) h1) (zlc_of (by decide) h2)), h4, h5⟩
    · obtain ⟨r, M1, M2, h1, h2, h3, h4, h5⟩ := p_count (X := X) (N := 1000000) (d := 1) (Nat.le_of_ble_eq_true rfl) hM (X.2.1 1) (X.2.1 2)
      exact ⟨_, M2, law_at hX e rfl (law_c6 (n := 0) hX h0 h3 (zlc_of (by decide) h1) (zlc_of (by decide) h2)), h4, h5⟩
    · obtain ⟨r, M1, M2, h1, h2, h3, h4, h5⟩ := p_thrown (X := X) (N := 1000000) (d := 1) (Nat.le_of_ble_eq_true rfl) hM (X.2.1 1) (X.2.1 2)
      exact ⟨_, M2, law_at hX e rfl (law_c7 (n := 0) hX h0 h3 (zlc_of (by decide) h1) (zlc_of (by decide) h2)), h4, h5⟩
    · obtain ⟨r, M1, M2, h1, h2, h3, h4, h5⟩ := p_depth (X := X) (N := 1000000) (d := 1) (Nat.le_of_ble_eq_true rfl) hM (X.2.1 1) (X.2.1 2) (X.2.1 3)
      exact ⟨_, M2, law_at hX e rfl (law_c8 (n := 0) hX h0 h3 (zlc_of (by decide) h1) (zlc_of (by decide) h2)), h4, h5⟩
    · obtain ⟨r, M1, M2, h1, h2, h3, h4, h5⟩ := p_cell (X := X) (N := 1000000) (d := 1) (Nat.le_of_ble_eq_true rfl) hM (X.2.1 1) (X.2.1 2) (X.2.1 3) (X.2.1 4)
      exact ⟨_, M2, law_at hX e rfl (law_c9 (n := 0) hX h0 h3 (zlc_of (by decide) h1) (zlc_of (by decide) h2)), h4, h5⟩
    · obtain ⟨r, M1, M2, h1, h2, h3, h4, h5⟩ := p_task (X := X) (N := 1000000) (d := 1) (Nat.le_of_ble_eq_true rfl) hM (X.2.1 1) (X.2.1 2)
      exact ⟨_, M2, law_at hX e rfl (law_c10 (n := 0) hX h0 h3 (zlc_of (by decide) h1) (zlc_of (by decide) h2)), h4, h5⟩
    · obtain ⟨r, M1, M2, h1, h2, h3, h4, h5⟩ := p_fetch (X := X) (N := 1000000) (d := 1) (Nat.le_of_ble_eq_true rfl) hM (X.2.1 1) (X.2.1 2) (X.2.1 3)
      exact ⟨_, M2, law_at hX e rfl (law_c11 (n := 0) hX h0 h3 (zlc_of (by decide) h1) (zlc_of (by decide) h2)), h4, h5⟩
    · obtain ⟨r, M1, M2, h1, h2, h3, h4, h5⟩ := p_find (X := X) (N := 1000000) (d := 1) (Nat.le_of_ble_eq_true rfl) hM (X.2.1 1)
      exact ⟨_, M2, law_at hX e rfl (law_c12 (n := 0) hX h0 h3 (zlc_of (by decide) h1) (zlc_of (by decide) h2)), h4, h5⟩
    · obtain ⟨r, M1, M2, h1, h2, h3, h4, h5⟩ := p_word (X := X) (N := 1000000) (d := 1) (Nat.le_of_ble_eq_true rfl) hM (X.2.1 1) (X.2.1 2) (X.2.1 3)
      exact ⟨_, M2, law_at hX e rfl (law_c13 (n := 0) hX h0 h3 (zlc_of (by decide) h1) (zlc_of (by decide) h2)), h4, h5⟩
    · obtain ⟨r, M1, M2, h1, h2, h3, h4, h5⟩ := p_name (X := X) (N := 1000000) (d := 1) (Nat.le_of_ble_eq_true rfl) hM (X.2.1 1) (X.2.1 2) (X.2.1 3)
      exact ⟨_, M2, law_at hX e rfl (law_c14 (n := 0) hX h0 h3 (zlc_of (by decide) h1) (zlc_of (by decide) h2)), h4, h5⟩
    · obtain ⟨r, M1, M2, h1, h2, h3, h4, h5⟩ := p_item (X := X) (N := 1000000) (d := 1) (Nat.le_of_ble_eq_true rfl) hM (X.2.1 1) (X.2.1 2) (X.2.1 3)
      exact ⟨_, M2, law_at hX e rfl (law_c15 (n := 0) hX h0 h3 (zlc_of (by decide) h1) (zlc_of (by decide) h2)), h4, h5⟩
    · obtain ⟨r, M1, M2, h1, h2, h3, h4, h5⟩ := p_effect (X := X) (N := 1000000) (d := 1) (Nat.le_of_ble_eq_true rfl) hM (X.2.1 1) (X.2.1 2)
      exact ⟨_, M2, law_at hX e rfl (law_c16 (n := 0) hX h0 h3 (zlc_of (by decide) h1) (zlc_of (by decide) h2)), h4, h5⟩
    · obtain ⟨r, M1, M2, h1, h2, h3, h4, h5⟩ := p_effectOf (X := X) (N := 1000000) (d := 1) (Nat.le_of_ble_eq_true rfl) hM (X.2.1 1) (X.2.1 2) (X.2.1 3)
      exact ⟨_, M2, law_at hX e rfl (law_c17 (n := 0) hX h0 h3 (zlc_of (by decide) h1) (zlc_of (by decide) h2)), h4, h5⟩
    · obtain ⟨r, M1, M2, h1, h2, h3, h4, h5⟩ := p_lean (X := X) (N := 1000000) (d := 1) (Nat.le_of_ble_eq_true rfl) hM (X.2.1 1) (X.2.1 2)
      exact ⟨_, M2, law_at hX e rfl (law_c18 (n := 0) hX h0 h3 (zlc_of (by decide) h1) (zlc_of (by decide) h2)), h4, h5⟩
    · obtain ⟨r, M1, M2, h1, h2, h3, h4, h5⟩ := p_chip (X := X) (N := 1000000) (d := 1) (Nat.le_of_ble_eq_true rfl) hM (X.2.1 1) (X.2.1 2)
      exact ⟨_, M2, law_at hX e rfl (law_c19 (n := 0) hX h0 h3 (zlc_of (by decide) h1) (zlc_of (by decide) h2)), h4, h5⟩
    · obtain ⟨r, M1, M2, h1, h2, h3, h4, h5⟩ := p_chipWord (X := X) (N := 1000000) (d := 1) (Nat.le_of_ble_eq_true rfl) hM (X.2.1 1)
      exact ⟨_, M2, law_at hX e rfl (law_c20 (n := 0) hX h0 h3 (zlc_of (by decide) h1) (zlc_of (by decide) h2)), h4, h5⟩
    · obtain ⟨r, M1, M2, h1, h2, h3, h4, h5⟩ := p_chipPut (X := X) (N := 1000000) (d := 1) (Nat.le_of_ble_eq_true rfl) hM (X.2.1 1)
      exact ⟨_, M2, law_at hX e rfl (law_c21 (n := 0) hX h0 h3 (zlc_of (by decide) h1) (zlc_of (by decide) h2)), h4, h5⟩
    · obtain ⟨r, M1, M2, h1, h2, h3, h4, h5⟩ := p_chipGo (X := X) (N := 1000000) (d := 1) (Nat.le_of_ble_eq_true rfl) hM (X.2.1 1)
      exact ⟨_, M2, law_at hX e rfl (law_c22 (n := 0) hX h0 h3 (zlc_of (by decide) h1) (zlc_of (by decide) h2)), h4, h5⟩
    · obtain ⟨r, M1, M2, h1, h2, h3, h4, h5⟩ := p_chipTold (X := X) (N := 1000000) (d := 1) (Nat.le_of_ble_eq_true rfl) hM (X.2.1 1)
      exact ⟨_, M2, law_at hX e rfl (law_c23 (n := 0) hX h0 h3 (zlc_of (by decide) h1) (zlc_of (by decide) h2)), h4, h5⟩
    · obtain ⟨r, M1, M2, h1, h2, h3, h4, h5⟩ := p_chipCell (X := X) (N := 1000000) (d := 1) (Nat.le_of_ble_eq_true rfl) hM (X.2.1 1)
      exact ⟨_, M2, law_at hX e rfl (law_c24 (n := 0) hX h0 h3 (zlc_of (by decide) h1) (zlc_of (by decide) h2)), h4, h5⟩
    · obtain ⟨r, M1, M2, h1, h2, h3, h4, h5⟩ := p_chipByte (X := X) (N := 1000000) (d := 1) (Nat.le_of_ble_eq_true rfl) hM (X.2.1 1)
      exact ⟨_, M2, law_at hX e rfl (law_c25 (n := 0) hX h0 h3 (zlc_of (by decide) h1) (zlc_of (by decide) h2)), h4, h5⟩
    · obtain ⟨r, M1, M2, h1, h2, h3, h4, h5⟩ := p_put (X := X) (N := 1000000) (d := 1) (Nat.le_of_ble_eq_true rfl) hM (X.2.1 1) (X.2.1 2) (X.2.1 3)
      exact ⟨_, M2, law_at hX e rfl (law_c26 (n := 0) hX h0 h3 (zlc_of (by decide) h1) (zlc_of (by decide) h2)), h4, h5⟩
    · obtain ⟨r, M1, M2, h1, h2, h3, h4, h5⟩ := p_keep (X := X) (N := 1000000) (d := 1) (Nat.le_of_ble_eq_true rfl) hM (X.2.1 1) (X.2.1 2)
      exact ⟨_, M2, law_at hX e rfl (law_c27 (n := 0) hX h0 h3 (zlc_of (by decide) h1) (zlc_of (by decide) h2)), h4, h5⟩
    · obtain ⟨r, M1, M2, h1, h2, h3, h4, h5⟩ := p_again (X := X) (N := 1000000) (d := 1) (Nat.le_of_ble_eq_true rfl) hM (X.2.1 1) (X.2.1 2)
      exact ⟨_, M2, law_at hX e rfl (law_c28 (n := 0) hX h0 h3 (zlc_of (by decide) h1) (zlc_of (by decide) h2)), h4, h5⟩
    · obtain ⟨r, M1, M2, h1, h2, h3, h4, h5⟩ := p_same (X := X) (N := 1000000) (d := 1) (Nat.le_of_ble_eq_true rfl) hM (X.2.1 1) (X.2.1 2)
      exact ⟨_, M2, law_at hX e rfl (law_c29 (n := 0) hX h0 h3 (zlc_of (by decide) h1) (zlc_of (by decide) h2)), h4, h5⟩
    · exact ⟨_, M, law_at hX e rfl (law_end (n := 0) hX), hM.1, hM.2.1⟩
    · exact ⟨_, M, law_at hX e rfl (law_end (n := 0) hX), hM.1, hM.2.1⟩
theorem law_run {X : zX} {z : Nat} (hL : X.1 ≤ 5) (hz : X.2.2 = z) (h01 : z = 0 ∨ z = 1) : ∃ n M', zrun X zmt (zlc X) zlaw n 0 [(0, .ref 1000016)] [] zM0 = some (some (.int 1), M') ∧ M'.1 = 486 ∧ M'.2.1 ≤ 7000000 := by
  obtain ⟨Ma, Mb, h1, h2, h3, h4⟩ := law_ctors hz h01
  obtain ⟨n, M', h5, h6⟩ := law_loop hL h4
  exact ⟨n + 10, M', law_begin h2 h1 h3 h5, h6⟩
