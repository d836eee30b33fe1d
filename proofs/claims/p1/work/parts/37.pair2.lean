/-! type and system of a new object: both sides -/
section ZPAIR2
variable {X : zX} {M : zM} {N d : Nat}
theorem p_type (hN : 1000 ≤ N) (hM : zNew M) (w : Int64) (va : Int32) : zpair X N d 254 458 [.long w, .int va] M := by
  rcases zin_01 va 1 8 with h | h
  · exact zpair_M hM (zev_SK (K := 8) (by omega) rfl rfl (Nat.le_of_ble_eq_true rfl) (fun n => x_typeB h)) (zev_SK (K := 7) (by omega) rfl rfl (Nat.le_of_ble_eq_true rfl) (fun n => m_typeB ((e_isIn (d := d + 11) hN va 1 8).trans (by rw [h]))))
  · obtain ⟨k, hk, rfl⟩ := zin_18 h
    obtain ⟨f1, hf1⟩ := hM.2.2.2.2.2.2.2.2.1
    obtain ⟨f4, hf4⟩ := hM.2.2.2.2.2.2.2.2.2.2.1
    have h474 := hM.2.2.2.2.2.2.2.1
    have hm : 486 ≤ M.1 := Nat.le_of_eq hM.1.symm
    have eM : zyM M f1 0 = M := z2_self hM.2.2.1 hf1
    obtain ⟨g1, hg1⟩ := x_type (X := X) (call := zev 10 X zmt zovT (d + 12) N) (w := w) hm h hk f1 (n := N) (by omega)
    rw [eM] at hg1
    have eM1 : zuM (zyM M g1 (nI k)) f4 0 = zyM M g1 (nI k) := z2_self ((z2o (by decide) (by decide)).trans h474) ((z2o (by decide) (by decide)).trans hf4)
    obtain ⟨g2, hg2⟩ := m_type (X := X) (call := zev 10 X zmt zovT (d + 12) N) (w := w) (M := zyM M g1 (nI k)) (f := f4) hm ((e_isIn (d := d + 11) hN (nI k) 1 8).trans (by rw [h])) hk (n := N) (by omega)
    rw [eM1] at hg2
    exact ⟨nI k, _, _, zev_S rfl rfl (Nat.le_of_ble_eq_true rfl) hg1, zev_S rfl rfl (Nat.le_of_ble_eq_true rfl) hg2, (z2o (by decide) (by decide)).trans h474, hM.1, hM.2.1⟩
theorem zq_inv {o : Option (Option Value × zM)} {v : Option Value} {a b : Nat} (h : zq o = some (v, a, b)) : ∃ M', o = some (v, M') ∧ M'.1 = a ∧ M'.2.1 = b := by
  cases o with
  | none => cases h
  | some q =>
    obtain ⟨v', M'⟩ := q
    cases h
    exact ⟨_, rfl, rfl, rfl⟩
theorem zin_24 {v : Int32} (h : zin v 2 4 = 1) : ∃ c, (c = 2 ∨ c = 3 ∨ c = 4) ∧ v = nI c := by
  obtain ⟨h1, h2⟩ := zin_of h
  rw [Int32.le_iff_toInt_le] at h1 h2
  have e1 : (2 : Int32).toInt = 2 := by decide
  have e2 : (4 : Int32).toInt = 4 := by decide
  refine ⟨v.toInt.toNat, by omega, Int32.toInt_inj.mp ?_⟩
  show v.toInt = (Int32.ofNat v.toInt.toNat).toInt
  rw [Int32.toInt_ofNat_of_lt (by omega)]
  omega
theorem lay_all {call : zCall} {f : Nat → Int32} {vb sc : Int32} {c : Nat} (hc : c = 2 ∨ c = 3 ∨ c = 4) (hM : 486 ≤ M.1) {n : Nat} (hn : 139 ≤ n) : ∃ f', zrun X zmt call zm_169 n 0 [(0, .ref 20), (1, .int 0), (2, .int (Int8.ofInt 10).toInt32)] [] (zxM M f (nI c) vb sc) = some (none, zxM M f' (nI c) vb sc) := by
  rcases hc with rfl | rfl | rfl <;> cases hq : zcI .eq (vb &&& Int32.ofInt 4) 0
  · have e := lay_2f (X := X) (call := call) (f := f) (sc := sc) hM hq (n := n - 77)
    rw [Nat.sub_add_cancel (by omega)] at e
    exact e
  · have e := lay_2t (X := X) (call := call) (f := f) (sc := sc) hM hq (n := n - 65)
    rw [Nat.sub_add_cancel (by omega)] at e
    exact e
  · have e := lay_3f (X := X) (call := call) (f := f) (sc := sc) hM hq (n := n - 108)
    rw [Nat.sub_add_cancel (by omega)] at e
    exact e
  · have e := lay_3t (X := X) (call := call) (f := f) (sc := sc) hM hq (n := n - 90)
    rw [Nat.sub_add_cancel (by omega)] at e
    exact e
  · have e := lay_4f (X := X) (call := call) (f := f) (sc := sc) hM hq (n := n - 139)
    rw [Nat.sub_add_cancel (by omega)] at e
    exact e
  · have e := lay_4t (X := X) (call := call) (f := f) (sc := sc) hM hq (n := n - 115)
    rw [Nat.sub_add_cancel (by omega)] at e
    exact e
theorem e_layBegin (hN : 1000 ≤ N) (hm : 486 ≤ M.1) (h19 : zob M 19 = some (.inr (1, zf_19))) {f : Nat → Int32} {vb : Int32} {c : Nat} (hc : c = 2 ∨ c = 3 ∨ c = 4) : ∃ f', zev 10 X zmt zovT (d + 12) N 17 [.ref 19, .int (nI c), .int vb] (zxM M f 0 0 0) = some (none, zxM M f' (nI c) vb 0) := by
  obtain ⟨f', h⟩ := lay_all (X := X) (M := M) (call := zev 10 X zmt zovT (d + 10) N) (f := f) (vb := vb) (sc := 0) hc hm (n := N) (by omega)
  exact ⟨f', zev_SK (d := d + 11) (K := 14) (by omega) rfl rfl (Nat.le_of_ble_eq_true rfl) (fun n => x_begin hm h19 (zev_S (d := d + 10) rfl rfl (Nat.le_of_ble_eq_true rfl) h))⟩
theorem e_system1 (hN : 1000 ≤ N) (hM : zNew M) {vb : Int32} {c : Nat} (hc : c = 2 ∨ c = 3 ∨ c = 4) (h1 : zin (nI c) 2 4 = 1) (h2 : zin vb 0 7 = 1) {f : Nat → Int32} (hf : zob M 21 = some (.inl (1, 4096, .inl f))) : ∃ f', zev 10 X zmt zovT (d + 13) N 256 [.ref 0, .int (nI c), .int vb] M = some (some (.int 0), zxM M f' (nI c) vb 1) := by
  have hm : 486 ≤ M.1 := Nat.le_of_eq hM.1.symm
  have h19 := hM.2.2.2.2.2.1
  obtain ⟨fr, hr, hr0⟩ := hM.2.2.2.2.2.2.2.2.2.2.2.2.2.2
  have eM : zxM M f 0 0 0 = M := zxM_self hf hM.2.2.2.2.2.2.1 hM.2.2.1
  obtain ⟨f', hb⟩ := e_layBegin (X := X) (d := d) hN hm h19 (f := f) (vb := vb) hc
  obtain ⟨a1, a2⟩ := zin_inv h1
  obtain ⟨b1, b2⟩ := zin_inv h2
  have e : zev 10 X zmt zovT (d + 13) N 256 [.ref 0, .int (nI c), .int vb] (zxM M f 0 0 0) = some (some (.int 0), zxM M f' (nI c) vb 1) := zev_SK (d := d + 12) (K := 31) (by omega) rfl rfl (Nat.le_of_ble_eq_true rfl) (fun n => x_system a1 a2 b1 (zc_gt_le b2) hm hr hr0 h19 hb)
  rw [eM] at e
  exact ⟨f', e⟩
section ZREF
variable {g0 : Nat → Int32}
theorem e_wordAt (hN : 1000 ≤ N) (hm : 486 ≤ M.1) (f g : Nat → Int32) (t : Nat) (cl rs : Int32) : zev 10 X zmt zovT (d + 1) N 324 [.ref 474, .int (nI t)] (zmM M f g cl rs) = some (some (.int (nI (8292 + 40 * t))), zmM M f g cl rs) := zev_SK (K := 9) (by omega) rfl rfl (Nat.le_of_ble_eq_true rfl) (fun n => zm_wordAt hm)
theorem e_newWord (hN : 2000 ≤ N) (hm : 486 ≤ M.1) (f g : Nat → Int32) (t k : Nat) (cl : Int32) (ht : t < 172) (hk : k < 24) (hf : f 4 = nI t) : zev 10 X zmt zovT (d + 2) N 330 [.ref 474, .int 0, .int 1] (zmM M f g cl (nI k)) = some (some (.int (nI t)), zmM M (znw f g t k) g cl (nI k)) := by
  refine zev_S (d := d + 1) rfl rfl (Nat.le_of_ble_eq_true rfl) ?_
  have e := zm_newWord (X := X) (call := zev 10 X zmt zovT (d + 1) N) (g := g) (cl := cl) (n := N - (4 + 18 * k + 600)) hm ht hk hf (fun f => e_wordAt (by omega) hm f g t cl (nI k))
  have e2 : N - (4 + 18 * k + 600) + 4 + 18 * k + 600 = N := by omega
  rw [e2] at e
  exact e
theorem e_putCell0 (hN : 1000 ≤ N) (hm : 486 ≤ M.1) (f g : Nat → Int32) {c : Nat} (hc : c ≤ 4) (rs v : Int32) : ∃ f', zev 10 X zmt zovT (d + 2) N 303 [.ref 474, .long (Int64.ofNat 0), .int v] (zmM M f g (nI c) rs) = some (none, zmM M f' g (nI c) rs) := by
  obtain ⟨f', h⟩ := zm_putCell (X := X) (call := zev 10 X zmt zovT (d + 1) N) (M := M) (f := f) (g := g) (rs := rs) (n := N) (c := c) (v := v) hm hc (fun f => zev_SK (K := 13) (by omega) rfl rfl (Nat.le_of_ble_eq_true rfl) (fun n => zm_high hm)) (fun f k w v hk hw => zev_SK (K := 14) (by omega) rfl rfl (Nat.le_of_ble_eq_true rfl) (fun n => zm_putByte hm hk hw)) (by omega)
  exact ⟨f', zev_S (d := d + 1) rfl rfl (Nat.le_of_ble_eq_true rfl) h⟩
theorem e_charAt9 {M : zM} (hM : M.1 ≤ 1000000) {k : Nat} (hk : k < (zsb 9).length) : zev 10 X zmt zovT (d + 10) N 502 [.ref 1000009, .int (nI k)] M = some (some (.int ((zsb 9).getD k 0)), M) := by
  have hl : (zsb 9).length < 2000 := by decide +kernel
  exact zev_ovS (d := d + 9) (show zovT 502 [.ref 1000009, .int (nI k)] M = some (some (.int ((zsb 9).getD k 0)), M) from zovS_C (q := 1000009) ⟨by decide, by decide⟩ hM hk (by omega)) (by omega)
theorem e_systemM (hN : 800000 ≤ N) (hm : 486 ≤ M.1) (hM2 : M.1 ≤ 1000000) {f g : Nat → Int32} (h474 : zob M 474 = some (.inr (12, zf_474))) (h475 : zob M 475 = some (.inl (0, 238220, .inl f))) (h479 : zob M 479 = some (.inl (0, 4100, .inl g))) (u0 : f 35 = 0) (u1 : f 39735 = 0) (u2 : f 79435 = 0) (u3 : f 119135 = 0) (u4 : f 158835 = 0) {vb : Int32} {c : Nat} (hc : c ≤ 4) (h1 : zin (nI c) 2 4 = 1) (h2 : zin vb 0 7 = 1) : ∃ M2, zev 10 X zmt zovT (d + 13) N 462 [.ref 474, .int (nI c), .int vb] M = some (some (.int 0), M2) ∧ M2.1 = M.1 ∧ M2.2.1 = M.2.1 := by
  have eM : zmM M f g 0 0 = M := zmM_self h475 h479 h474
  have hi := fun v a b => e_isIn (X := X) (N := N) (d := d + 11) (M := zmM M f g 0 0) (by omega) v a b
  have e := zm_system (X := X) (call := zev 10 X zmt zovT (d + 12) N) (M := M) (f := f) (g := g) (vb := vb) (c := c) (m := N) hm hM2 ((hi (nI c) 2 4).trans (by rw [h1])) ((hi vb 0 7).trans (by rw [h2])) (zev_SK (d := d + 11) (K := 57) (by omega) rfl rfl (Nat.le_of_ble_eq_true rfl) (fun n => m_systems (zm_o hm) (zm_m hm) u0 u1 u2 u3 u4)) (fun M k hM hk => e_charAt9 (d := d + 2) hM hk) (fun f g t k ht hk hf => e_newWord (d := d + 10) (by omega) hm f g t k _ ht hk hf) (fun f g t rs => e_wordAt (d := d + 11) (by omega) hm f g t _ rs) (fun f g rs => e_putCell0 (d := d + 10) (by omega) hm f g hc rs _) hN
  rw [eM] at e
  obtain ⟨M2, q1, q2, q3⟩ := zq_inv e
  exact ⟨M2, zev_S (d := d + 12) rfl rfl (Nat.le_of_ble_eq_true rfl) q1, q2, q3⟩
end ZREF
theorem p_system (hN : 800000 ≤ N) (hM : zNew M) (va vb : Int32) : zpair X N d 256 462 [.int va, .int vb] M := by
  have hN1 : 1000 ≤ N := by omega
  have hi := fun v a b => e_isIn (X := X) (N := N) (d := d + 11) (M := M) hN1 v a b
  have h474 := hM.2.2.2.2.2.2.2.1
  rcases zin_01 va 2 4 with h | h
  · exact zpair_M hM (zev_SK (d := d + 12) (K := 13) (by omega) rfl rfl (Nat.le_of_ble_eq_true rfl) (fun n => x_systemB (Or.inl h))) (zev_SK (d := d + 12) (K := 7) (by omega) rfl rfl (Nat.le_of_ble_eq_true rfl) (fun n => m_system0 ((hi va 2 4).trans (by rw [h]))))
  · rcases zin_01 vb 0 7 with h2 | h2
    · exact zpair_M hM (zev_SK (d := d + 12) (K := 13) (by omega) rfl rfl (Nat.le_of_ble_eq_true rfl) (fun n => x_systemB (Or.inr h2))) (zev_SK (d := d + 12) (K := 12) (by omega) rfl rfl (Nat.le_of_ble_eq_true rfl) (fun n => m_system1 ((hi va 2 4).trans (by rw [h])) ((hi vb 0 7).trans (by rw [h2]))))
    · obtain ⟨c, hc, rfl⟩ := zin_24 h
      obtain ⟨f21, hf21⟩ := hM.2.2.2.2.2.2.2.2.2.1
      obtain ⟨g, hg⟩ := hM.2.2.2.2.2.2.2.2.2.2.2.1
      obtain ⟨f, hf, u0, u1, u2, u3, u4⟩ := hM.2.2.2.2.2.2.2.2.2.2.2.2.2.1
      obtain ⟨f', hx⟩ := e_system1 (X := X) (N := N) (d := d) hN1 hM hc h h2 hf21
      have hm : 486 ≤ (zxM M f' (nI c) vb 1).1 := Nat.le_of_eq hM.1.symm
      have hm2 : (zxM M f' (nI c) vb 1).1 ≤ 1000000 := Nat.le_trans (Nat.le_of_eq hM.1) (Nat.le_of_ble_eq_true rfl)
      obtain ⟨M2, q1, q2, q3⟩ := e_systemM (X := X) (N := N) (d := d) hN hm hm2 ((zx_o (by decide) (by decide) (by decide)).trans h474) ((zx_o (by decide) (by decide) (by decide)).trans hf) ((zx_o (by decide) (by decide) (by decide)).trans hg) u0 u1 u2 u3 u4 (vb := vb) (c := c) (by omega) h h2
      exact ⟨0, _, M2, hx, q1, (zx_o (by decide) (by decide) (by decide)).trans h474, q2.trans hM.1, Nat.le_trans (Nat.le_of_eq q3) hM.2.1⟩
end ZPAIR2
