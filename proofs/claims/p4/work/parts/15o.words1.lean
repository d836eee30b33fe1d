/-! Words(): its lines are spelled into rows -/
abbrev zwS : Type := Nat × (Nat → Int32) × (Nat → Int32) × (Nat → Int32) × (Nat → Int32) × (Nat → Int32)
def zwFlag (t : Nat) : Int32 := vp_nar .byte ((zTRAITS.getD t 0 &&& Int32.ofInt 1).toInt8.toInt32)
/-- a sign of a line: (words, lists, does, flags, lengths, names) -/
def zal1 (s : zwS) (c : Int32) : zwS := match s with
  | (t, fL, fD, fF, fN, fM) => if c = 32 then (t + 1, upd fL t (vp_nar .byte (Int32.ofInt 1)), upd fD t (Int32.ofInt (-1)), upd fF t (zwFlag t), fN, fM) else (t, fL, fD, fF, upd fN t (vp_nar .byte ((fN t + Int32.ofInt 1).toInt8.toInt32)), upd fM (24 * t + (fN t).toNatClampNeg) (vp_nar .byte c.toInt8.toInt32))
def zal (s : zwS) : List Int32 → zwS
  | [] => s
  | c :: cs => zal (zal1 s c) cs
def zgood : List Int32 → Nat → Nat → Bool
  | [], _, _ => true
  | c :: cs, t, k => if c = 32 then (Nat.blt t 172 && zgood cs (t + 1) 0) else (Nat.blt t 172 && Nat.blt k 23 && zgood cs t (k + 1))
def zwInv (s : zwS) (k : Nat) : Prop := s.2.2.2.2.1 s.1 = nI k ∧ ∀ j, s.1 < j → s.2.2.2.2.1 j = 0
def zwF (b t : Nat) : List Value := [.ref b, .ref (b + 1), .ref (b + 2), .ref (b + 3), .ref (b + 4), .ref (b + 5), .ref (b + 6), .ref (b + 7), .ref (b + 8), .ref (b + 9), .ref (b + 10), .ref (b + 11), .int (nI t), .int (Int32.ofInt (-1))]
def zwE (M : zM) (o b : Nat) (s : zwS) (k : Nat) : zE :=
  if k = o then .inr (10, zwF b s.1)
  else if k = b + 2 then .inl (1, 360, .inl s.2.1)
  else if k = b + 5 then .inl (0, 360, .inl s.2.2.1)
  else if k = b + 1 then .inl (1, 360, .inl s.2.2.2.1)
  else if k = b + 6 then .inl (1, 360, .inl s.2.2.2.2.1)
  else if k = b + 7 then .inl (1, 8640, .inl s.2.2.2.2.2)
  else M.2.2 k
def zwM (M : zM) (o b : Nat) (s : zwS) : zM := (M.1, M.2.1, zwE M o b s)
section ZWORDS
variable {M : zM} {o b : Nat} {s : zwS}
theorem zw_o (ho : o < b) (hb : b + 12 ≤ M.1) : zob (zwM M o b s) o = some (.inr (10, zwF b s.1)) := by
  unfold zob zwM zwE
  dsimp only
  rw [if_pos (by omega), if_pos rfl]
theorem zw_L (ho : o < b) (hb : b + 12 ≤ M.1) : zob (zwM M o b s) (b + 2) = some (.inl (1, 360, .inl s.2.1)) := by
  unfold zob zwM zwE
  dsimp only
  rw [if_pos (by omega), if_neg (by omega), if_pos rfl]
theorem zw_D (ho : o < b) (hb : b + 12 ≤ M.1) : zob (zwM M o b s) (b + 5) = some (.inl (0, 360, .inl s.2.2.1)) := by
  unfold zob zwM zwE
  dsimp only
  rw [if_pos (by omega), if_neg (by omega), if_neg (by omega), if_pos rfl]
theorem zw_F (ho : o < b) (hb : b + 12 ≤ M.1) : zob (zwM M o b s) (b + 1) = some (.inl (1, 360, .inl s.2.2.2.1)) := by
  unfold zob zwM zwE
  dsimp only
  rw [if_pos (by omega), if_neg (by omega), if_neg (by omega), if_neg (by omega), if_pos rfl]
theorem zw_N (ho : o < b) (hb : b + 12 ≤ M.1) : zob (zwM M o b s) (b + 6) = some (.inl (1, 360, .inl s.2.2.2.2.1)) := by
  unfold zob zwM zwE
  dsimp only
  rw [if_pos (by omega), if_neg (by omega), if_neg (by omega), if_neg (by omega), if_neg (by omega), if_pos rfl]
theorem zw_M (ho : o < b) (hb : b + 12 ≤ M.1) : zob (zwM M o b s) (b + 7) = some (.inl (1, 8640, .inl s.2.2.2.2.2)) := by
  unfold zob zwM zwE
  dsimp only
  rw [if_pos (by omega), if_neg (by omega), if_neg (by omega), if_neg (by omega), if_neg (by omega), if_neg (by omega), if_pos rfl]
theorem zw_ext {a : Nat} {e : zE} {s' : zwS} (h : ∀ k, (if k = a then e else zwE M o b s k) = zwE M o b s' k) : zset (zwM M o b s) a e = zwM M o b s' := by
  unfold zset zwM
  dsimp only
  refine congrArg (fun z => (M.1, M.2.1, z)) (funext fun k => ?_)
  unfold va_up
  exact h k
theorem zws_o (ho : o < b) {t' : Nat} : zset (zwM M o b s) o (.inr (10, zwF b t')) = zwM M o b (t', s.2) := zw_ext fun k => by
  unfold zwE
  dsimp only
  split
  · rfl
  · rfl
theorem zws_L (ho : o < b) {f : Nat → Int32} : zset (zwM M o b s) (b + 2) (.inl (1, 360, .inl f)) = zwM M o b (s.1, f, s.2.2) := zw_ext fun k => by
  unfold zwE
  dsimp only
  by_cases q : k = b + 2
  · subst q
    rw [if_pos rfl, if_neg (by omega), if_pos rfl]
  · rw [if_neg q, if_neg q, if_neg q]
theorem zws_D (ho : o < b) {f : Nat → Int32} : zset (zwM M o b s) (b + 5) (.inl (0, 360, .inl f)) = zwM M o b (s.1, s.2.1, f, s.2.2.2) := zw_ext fun k => by
  unfold zwE
  dsimp only
  by_cases q : k = b + 5
  · subst q
    rw [if_pos rfl, if_neg (by omega), if_neg (by omega), if_pos rfl]
  · rw [if_neg q, if_neg q, if_neg q]
theorem zws_F (ho : o < b) {f : Nat → Int32} : zset (zwM M o b s) (b + 1) (.inl (1, 360, .inl f)) = zwM M o b (s.1, s.2.1, s.2.2.1, f, s.2.2.2.2) := zw_ext fun k => by
  unfold zwE
  dsimp only
  by_cases q : k = b + 1
  · subst q
    rw [if_pos rfl, if_neg (by omega), if_neg (by omega), if_neg (by omega), if_pos rfl]
  · rw [if_neg q, if_neg q, if_neg q]
theorem zws_N (ho : o < b) {f : Nat → Int32} : zset (zwM M o b s) (b + 6) (.inl (1, 360, .inl f)) = zwM M o b (s.1, s.2.1, s.2.2.1, s.2.2.2.1, f, s.2.2.2.2.2) := zw_ext fun k => by
  unfold zwE
  dsimp only
  by_cases q : k = b + 6
  · subst q
    rw [if_pos rfl, if_neg (by omega), if_neg (by omega), if_neg (by omega), if_neg (by omega), if_pos rfl]
  · rw [if_neg q, if_neg q, if_neg q]
theorem zws_M (ho : o < b) {f : Nat → Int32} : zset (zwM M o b s) (b + 7) (.inl (1, 8640, .inl f)) = zwM M o b (s.1, s.2.1, s.2.2.1, s.2.2.2.1, s.2.2.2.2.1, f) := zw_ext fun k => by
  unfold zwE
  dsimp only
  by_cases q : k = b + 7
  · subst q
    rw [if_pos rfl, if_neg (by omega), if_neg (by omega), if_neg (by omega), if_neg (by omega), if_neg (by omega), if_pos rfl]
  · rw [if_neg q, if_neg q, if_neg q]
end ZWORDS
theorem zr_stb {X : zX} {mt : Nat → Option zMe} {call : zCall} {r : zMe} {n pc a k : Nat} {ls : zL} {M : zM} {rest : List Value} {l : List Int32} {res : Option (Option Value × zM)} (htb : r.2.2.2.2.2.2.2 pc = some (.baload, 1)) (hz : zstat a = some l) (hk : k < l.length) (hk2 : k < 2 ^ 31) (h : zrun X mt call r n (pc + 1) ls (.int (l.getD k 0) :: rest) M = res) : zrun X mt call r (n + 1) pc ls (.int (nI k) :: .ref a :: rest) M = res := by
  refine zr_s1 htb rfl rfl rfl ?_ h
  simp only [zs1, hz]
  rw [nI_clamp hk2, if_neg]
  intro z
  rcases z with z | z
  · exact nI_pos hk2 z
  · omega
theorem zfit_int (v : Int32) : zfit .int (.int v) = true := by simp [zfit, narrow, fits]
theorem zwF_S (b t : Nat) : (zwF b t).set 12 (.int (nI t + Int32.ofInt 1)) = zwF b (t + 1) := by
  have e : nI t + Int32.ofInt 1 = nI (t + 1) := nI_1 t
  rw [e]
  rfl
theorem zw_len : ∀ k, k < 23 → vp_nar .byte ((nI k + Int32.ofInt 1).toInt8.toInt32) = nI (k + 1) := by decide +kernel
theorem nI_mul (a b : Nat) : nI a * nI b = nI (a * b) := by
  unfold nI
  simp
set_option maxHeartbeats 4000000 in
theorem addLine_loop {X : zX} {call : zCall} {M : zM} {o b q : Nat} (ho : o < b) (hb : b + 12 ≤ M.1) (hM : M.1 ≤ 1000000) (cs0 : List Int32) (hlen : cs0.length < 2 ^ 31) (hcL : ∀ M : zM, M.1 ≤ 1000000 → call 501 [.ref q] M = some (some (.int (nI cs0.length)), M)) (hcC : ∀ (M : zM) (k : Nat), M.1 ≤ 1000000 → k < cs0.length → call 502 [.ref q, .int (nI k)] M = some (some (.int (cs0.getD k 0)), M)) (hq : 1000000 ≤ q ∧ q < 1000013) : ∀ (cs : List Int32) (i k : Nat) (s : zwS), i ≤ cs0.length → cs0.drop i = cs → zwInv s k → zgood cs s.1 k = true → k < 24 → ∀ n, 42 * cs.length + 5 ≤ n → zrun X zmt call zm_239 n 2 [(0, .ref o), (1, .ref q), (2, .int (nI i))] [] (zwM M o b s) = some (none, zwM M o b (zal s cs)) := by
  intro cs
  induction cs with
  | nil =>
    intro i k s hile hd hi hg hk n hn5
    have hle : cs0.length ≤ i := List.drop_eq_nil_iff.mp hd
    have hi2 : i = cs0.length := by omega
    subst hi2
    obtain ⟨n, rfl⟩ : ∃ n', n = n' + 5 := ⟨n - 5, by omega⟩
    refine zr_s0 rfl rfl rfl rfl ?_
    refine zr_s0 rfl rfl rfl rfl ?_
    refine zr_callT rfl rfl rfl rfl hq ⟨Or.inl rfl, rfl, rfl, rfl, rfl, rfl, Nat.le_of_ble_eq_true rfl⟩ (hcL _ hM) ?_
    refine zr_icmp (t := 121) rfl rfl (fun _ => ?_) (fun h => by simp [zcI] at h)
    exact zr_ret rfl rfl rfl
  | cons c cs ih =>
    intro i k s hile hd hi hg hk n0 hn0
    rw [List.length_cons] at hn0
    obtain ⟨t, fL, fD, fF, fN, fM⟩ := s
    obtain ⟨hN, hN2⟩ := hi
    have hN : fN t = nI k := hN
    have hN2 : ∀ j, t < j → fN j = 0 := hN2
    have hlt : i < cs0.length := by
      by_cases z : i < cs0.length
      · exact z
      · rw [List.drop_eq_nil_of_le (by omega)] at hd
        cases hd
    have hc : cs0.getD i 0 = c := by
      rw [List.drop_eq_getElem_cons hlt] at hd
      rw [List.getD_eq_getElem?_getD, List.getElem?_eq_getElem hlt]
      exact (List.cons.inj hd).1
    have hd2 : cs0.drop (i + 1) = cs := by
      rw [List.drop_eq_getElem_cons hlt] at hd
      exact (List.cons.inj hd).2
    have e2 : nI i + Int32.ofInt 1 = nI (i + 1) := nI_1 i
    have hg' : zgood (c :: cs) t k = true := hg
    unfold zgood at hg'
    by_cases h32 : c = 32
    · rw [if_pos h32, Bool.and_eq_true] at hg'
      have ht : t < 172 := Nat.le_of_ble_eq_true hg'.1
      obtain ⟨n, rfl⟩ : ∃ n', n0 = n' + 42 := ⟨n0 - 42, by omega⟩
      have hn := ih (i + 1) 0 (t + 1, upd fL t (vp_nar .byte (Int32.ofInt 1)), upd fD t (Int32.ofInt (-1)), upd fF t (zwFlag t), fN, fM) (by omega) hd2 ⟨hN2 (t + 1) (by omega), fun j hj => hN2 j (by have : t + 1 < j := hj; omega)⟩ hg'.2 (by omega) n (by omega)
      have ez : zal (t, fL, fD, fF, fN, fM) (c :: cs) = zal (t + 1, upd fL t (vp_nar .byte (Int32.ofInt 1)), upd fD t (Int32.ofInt (-1)), upd fF t (zwFlag t), fN, fM) cs := by
        show zal (zal1 _ c) cs = _
        unfold zal1
        dsimp only
        rw [if_pos h32]
      rw [ez]
      refine zr_s0 rfl rfl rfl rfl ?_
      refine zr_s0 rfl rfl rfl rfl ?_
      refine zr_callT rfl rfl rfl rfl hq ⟨Or.inl rfl, rfl, rfl, rfl, rfl, rfl, Nat.le_of_ble_eq_true rfl⟩ (hcL _ hM) ?_
      refine zr_icmp (t := 121) rfl rfl (fun h => absurd (by simpa [zcI] using h) (nI_ge hlt hlen)) (fun _ => ?_)
      refine zr_s0 rfl rfl rfl rfl ?_
      refine zr_s0 rfl rfl rfl rfl ?_
      refine zr_callT rfl rfl rfl rfl hq ⟨Or.inl rfl, rfl, rfl, rfl, rfl, rfl, Nat.le_of_ble_eq_true rfl⟩ (hcC _ _ hM hlt) ?_
      rw [hc]
      refine zr_s0 rfl rfl rfl rfl ?_
      refine zr_icmp (t := 73) rfl rfl (fun h => absurd h32 (by simpa [zcI] using h)) (fun _ => ?_)
      -- lists
      refine zr_s0 rfl rfl rfl rfl ?_
      refine zr_get rfl rfl (zw_o ho hb) rfl ?_
      refine zr_s0 rfl rfl rfl rfl ?_
      refine zr_get rfl rfl (zw_o ho hb) rfl ?_
      refine zr_s0 rfl rfl rfl rfl ?_
      refine zr_bast rfl (zw_L ho hb) (vp_in_nI (show t < 360 by omega) (by omega)) ?_
      rw [zws_L ho, nI_clamp (by omega)]
      -- does
      refine zr_s0 rfl rfl rfl rfl ?_
      refine zr_get rfl rfl (zw_o ho hb) rfl ?_
      refine zr_s0 rfl rfl rfl rfl ?_
      refine zr_get rfl rfl (zw_o ho hb) rfl ?_
      refine zr_s0 rfl rfl rfl rfl ?_
      refine zr_iast rfl (zw_D ho hb) (vp_in_nI (show t < 360 by omega) (by omega)) ?_
      rw [zws_D ho, nI_clamp (by omega)]
      -- flags
      refine zr_s0 rfl rfl rfl rfl ?_
      refine zr_get rfl rfl (zw_o ho hb) rfl ?_
      refine zr_s0 rfl rfl rfl rfl ?_
      refine zr_get rfl rfl (zw_o ho hb) rfl ?_
      refine zr_s1 rfl rfl rfl rfl rfl ?_
      refine zr_s0 rfl rfl rfl rfl ?_
      refine zr_get rfl rfl (zw_o ho hb) rfl ?_
      refine zr_stb rfl rfl (show t < zTRAITS.length by rw [show zTRAITS.length = 172 from by decide +kernel]; exact ht) (by omega) ?_
      refine zr_s0 rfl rfl rfl rfl ?_
      refine zr_s0 rfl rfl rfl rfl ?_
      refine zr_s0 (pc' := 59) (ls' := [(0, .ref o), (1, .ref q), (2, .int (nI i))]) (st' := [.int ((zTRAITS.getD t 0 &&& Int32.ofInt 1).toInt8.toInt32), .int (nI t), .ref (b + 1)]) rfl rfl rfl rfl ?_
      refine zr_bast rfl (zw_F ho hb) (vp_in_nI (show t < 360 by omega) (by omega)) ?_
      rw [zws_F ho, nI_clamp (by omega)]
      -- total
      refine zr_s0 rfl rfl rfl rfl ?_
      refine zr_s0 rfl rfl rfl rfl ?_
      refine zr_get rfl rfl (zw_o ho hb) rfl ?_
      refine zr_s0 rfl rfl rfl rfl ?_
      refine zr_s0 rfl rfl rfl rfl ?_
      refine zr_put rfl rfl (zw_o ho hb) rfl ⟨Nat.le_of_ble_eq_true rfl, Nat.le_of_ble_eq_true rfl, zfit_int _, Or.inl rfl⟩ ?_
      rw [zwF_S, zws_o ho]
      refine zr_s0 rfl rfl rfl rfl ?_
      refine zr_s0 rfl rfl rfl rfl ?_
      rw [e2]
      refine zr_s0 rfl rfl rfl rfl ?_
      exact hn
    · rw [if_neg h32, Bool.and_eq_true, Bool.and_eq_true] at hg'
      have ht : t < 172 := Nat.le_of_ble_eq_true hg'.1.1
      have hk2 : k < 23 := Nat.le_of_ble_eq_true hg'.1.2
      have hv : vp_nar .byte ((fN t + Int32.ofInt 1).toInt8.toInt32) = nI (k + 1) := by
        rw [hN]
        exact zw_len k hk2
      have hkc : (fN t).toNatClampNeg = k := by
        rw [hN]
        exact nI_clamp (by omega)
      obtain ⟨n, rfl⟩ : ∃ n', n0 = n' + 38 := ⟨n0 - 38, by omega⟩
      have hn := ih (i + 1) (k + 1) (t, fL, fD, fF, upd fN t (vp_nar .byte ((fN t + Int32.ofInt 1).toInt8.toInt32)), upd fM (24 * t + (fN t).toNatClampNeg) (vp_nar .byte c.toInt8.toInt32)) (by omega) hd2 ⟨by
        show upd fN t _ t = nI (k + 1)
        unfold upd
        rw [if_pos rfl, hv], fun j hj => by
        have hj : t < j := hj
        show upd fN t _ j = 0
        unfold upd
        rw [if_neg (by omega)]
        exact hN2 j hj⟩ hg'.2 (by omega) n (by omega)
      have ez : zal (t, fL, fD, fF, fN, fM) (c :: cs) = zal (t, fL, fD, fF, upd fN t (vp_nar .byte ((fN t + Int32.ofInt 1).toInt8.toInt32)), upd fM (24 * t + (fN t).toNatClampNeg) (vp_nar .byte c.toInt8.toInt32)) cs := by
        show zal (zal1 _ c) cs = _
        unfold zal1
        dsimp only
        rw [if_neg h32]
      rw [ez]
      have hidx : nI t * (Int8.ofInt 24).toInt32 + nI k = nI (24 * t + k) := by
        have e24 : (Int8.ofInt 24).toInt32 = nI 24 := by decide
        rw [e24, nI_mul, nI_add, Nat.mul_comm]
      refine zr_s0 rfl rfl rfl rfl ?_
      refine zr_s0 rfl rfl rfl rfl ?_
      refine zr_callT rfl rfl rfl rfl hq ⟨Or.inl rfl, rfl, rfl, rfl, rfl, rfl, Nat.le_of_ble_eq_true rfl⟩ (hcL _ hM) ?_
      refine zr_icmp (t := 121) rfl rfl (fun h => absurd (by simpa [zcI] using h) (nI_ge hlt hlen)) (fun _ => ?_)
      refine zr_s0 rfl rfl rfl rfl ?_
      refine zr_s0 rfl rfl rfl rfl ?_
      refine zr_callT rfl rfl rfl rfl hq ⟨Or.inl rfl, rfl, rfl, rfl, rfl, rfl, Nat.le_of_ble_eq_true rfl⟩ (hcC _ _ hM hlt) ?_
      rw [hc]
      refine zr_s0 rfl rfl rfl rfl ?_
      refine zr_icmp (t := 73) rfl rfl (fun _ => ?_) (fun h => absurd (by simpa [zcI] using h) h32)
      refine zr_s0 rfl rfl rfl rfl ?_
      refine zr_get rfl rfl (zw_o ho hb) rfl ?_
      refine zr_s0 rfl rfl rfl rfl ?_
      refine zr_get rfl rfl (zw_o ho hb) rfl ?_
      refine zr_s0 rfl rfl rfl rfl ?_
      refine zr_s0 rfl rfl rfl rfl ?_
      refine zr_s0 rfl rfl rfl rfl ?_
      refine zr_get rfl rfl (zw_o ho hb) rfl ?_
      refine zr_s0 rfl rfl rfl rfl ?_
      refine zr_get rfl rfl (zw_o ho hb) rfl ?_
      refine zr_bald rfl (by omega) (zw_N ho hb) (vp_in_nI (show t < 360 by omega) (by omega)) ?_
      rw [nI_clamp (show t < 2 ^ 31 by omega)]
      refine zr_s0 (pc' := 94) (ls' := [(0, .ref o), (1, .ref q), (2, .int (nI i))]) (st' := [.int (nI (24 * t + k)), .ref (b + 7)]) rfl rfl rfl (by
        rw [← hidx, ← hN]
        rfl) ?_
      refine zr_s0 rfl rfl rfl rfl ?_
      refine zr_s0 rfl rfl rfl rfl ?_
      refine zr_callT rfl rfl rfl rfl hq ⟨Or.inl rfl, rfl, rfl, rfl, rfl, rfl, Nat.le_of_ble_eq_true rfl⟩ (hcC _ _ hM hlt) ?_
      rw [hc]
      refine zr_s0 (pc' := 100) (ls' := [(0, .ref o), (1, .ref q), (2, .int (nI i))]) (st' := [.int c.toInt8.toInt32, .int (nI (24 * t + k)), .ref (b + 7)]) rfl rfl rfl rfl ?_
      refine zr_bast rfl (zw_M ho hb) (vp_in_nI (show 24 * t + k < 8640 by omega) (by omega)) ?_
      rw [zws_M ho, nI_clamp (by omega)]
      refine zr_s0 rfl rfl rfl rfl ?_
      refine zr_get rfl rfl (zw_o ho hb) rfl ?_
      refine zr_s0 rfl rfl rfl rfl ?_
      refine zr_get rfl rfl (zw_o ho hb) rfl ?_
      refine zr_s0 rfl rfl rfl rfl ?_
      refine zr_bald rfl (by omega) (zw_N ho hb) (vp_in_nI (show t < 360 by omega) (by omega)) ?_
      rw [nI_clamp (show t < 2 ^ 31 by omega)]
      refine zr_s0 rfl rfl rfl rfl ?_
      refine zr_s0 rfl rfl rfl rfl ?_
      refine zr_s0 (pc' := 114) (ls' := [(0, .ref o), (1, .ref q), (2, .int (nI i))]) (st' := [.int ((fN t + Int32.ofInt 1).toInt8.toInt32), .int (nI t), .ref (b + 6)]) rfl rfl rfl rfl ?_
      refine zr_bast rfl (zw_N ho hb) (vp_in_nI (show t < 360 by omega) (by omega)) ?_
      rw [zws_N ho, nI_clamp (show t < 2 ^ 31 by omega)]
      refine zr_s0 rfl rfl rfl rfl ?_
      rw [e2]
      refine zr_s0 rfl rfl rfl rfl ?_
      rw [hkc] at hn ⊢
      exact hn
