/-! newWord -/
theorem zc_nge {i m : Nat} (h : i < m) (hm : m < 2 ^ 31) : ¬ zcI .ge (nI i) (nI m) = true := fun q => absurd (of_decide_eq_true q) (nI_ge h hm)
theorem zc_self {x : Int32} : ¬ zcI .ge x x = false := fun q => of_decide_eq_false q (Int32.le_refl x)
def zclr (f : Nat → Int32) (w i : Nat) : Nat → Int32 := fun j => if w ≤ j ∧ j < w + i then 0 else f j
def zcp (f g : Nat → Int32) (w i : Nat) : Nat → Int32 := fun j => if w ≤ j ∧ j < w + i then g (j - w) else f j
theorem zclr_0 (f : Nat → Int32) (w : Nat) : zclr f w 0 = f := by
  funext j
  unfold zclr
  rw [if_neg (by omega)]
theorem zcp_0 (f g : Nat → Int32) (w : Nat) : zcp f g w 0 = f := by
  funext j
  unfold zcp
  rw [if_neg (by omega)]
theorem zclr_S (f : Nat → Int32) (w i : Nat) : upd (zclr f w i) (w + i) 0 = zclr f w (i + 1) := by
  funext j
  unfold upd zclr
  by_cases q : j = w + i
  · rw [if_pos q, if_pos (by omega)]
  · rw [if_neg q]
    by_cases q2 : w ≤ j ∧ j < w + i
    · rw [if_pos q2, if_pos (by omega)]
    · rw [if_neg q2, if_neg (by omega)]
theorem zcp_S (f g : Nat → Int32) (w i : Nat) : upd (zcp f g w i) (w + i) (g i) = zcp f g w (i + 1) := by
  funext j
  unfold upd zcp
  by_cases q : j = w + i
  · rw [if_pos q, if_pos (by omega), show j - w = i by omega]
  · rw [if_neg q]
    by_cases q2 : w ≤ j ∧ j < w + i
    · rw [if_pos q2, if_pos (by omega)]
    · rw [if_neg q2, if_neg (by omega)]
section ZNW
variable {X : zX} {call : zCall} {M : zM} {g : Nat → Int32} {cl : Int32}
theorem nw_clear {t w n : Nat} {rs : Int32} {res : Option (Option Value × zM)} (hM : 486 ≤ M.1) (hw : w + 40 ≤ 238220) {f : Nat → Int32} (hk : zrun X zmt call zm_330 n 76 [(0, .ref 474), (1, .int 0), (2, .int 1), (3, .int (nI t)), (4, .int (nI w)), (5, .int (nI 40))] [] (zmM M (zclr f w 40) g cl rs) = res) : ∀ c i, i + c = 40 → zrun X zmt call zm_330 (n + 3 + 12 * c) 52 [(0, .ref 474), (1, .int 0), (2, .int 1), (3, .int (nI t)), (4, .int (nI w)), (5, .int (nI i))] [] (zmM M (zclr f w i) g cl rs) = res := by
  intro c
  induction c with
  | zero =>
    intro i hi
    have hi : i = 40 := by omega
    subst hi
    refine zr_s0 rfl rfl rfl rfl ?_
    refine zr_s0 rfl rfl rfl rfl ?_
    refine zr_icmp (t := 76) rfl rfl (fun _ => hk) (fun h => absurd (show zcI .ge (nI 40) (nI 40) = false from h) zc_self)
  | succ c ih =>
    intro i hi
    have e : n + 3 + 12 * (c + 1) = (n + 3 + 12 * c) + 12 := by omega
    rw [e]
    refine zr_s0 rfl rfl rfl rfl ?_
    refine zr_s0 rfl rfl rfl rfl ?_
    refine zr_icmp (t := 76) rfl rfl (fun h => absurd (show zcI .ge (nI i) (nI 40) = true from h) (zc_nge (by omega) (by decide))) (fun _ => ?_)
    refine zr_s0 rfl rfl rfl rfl ?_
    refine zr_get rfl rfl (zm_o hM) rfl ?_
    refine zr_s0 rfl rfl rfl rfl ?_
    refine zr_s0 rfl rfl rfl rfl ?_
    refine zr_s0 rfl rfl rfl rfl ?_
    refine zr_s0 rfl rfl rfl rfl ?_
    refine zr_iastM (k := w + i) rfl hM (nI_add w i) (by omega) ?_
    rw [show Int32.ofInt 0 = 0 by decide, zclr_S]
    refine zr_s0 rfl rfl rfl rfl ?_
    refine zr_s0 rfl rfl rfl rfl ?_
    have e2 : nI i + Int32.ofInt 1 = nI (i + 1) := nI_1 i
    rw [e2]
    exact ih (i + 1) (by omega)
theorem nw_copy {t w rs n : Nat} {res : Option (Option Value × zM)} (hM : 486 ≤ M.1) (hw : w + 40 ≤ 238220) (hrs : rs < 24) {f : Nat → Int32} (hk : zrun X zmt call zm_330 n 195 [(0, .ref 474), (1, .int 0), (2, .int 1), (3, .int (nI t)), (4, .int (nI w)), (5, .int (nI rs))] [] (zmM M (zcp f g (w + 15) rs) g cl (nI rs)) = res) : ∀ c i, i + c = rs → zrun X zmt call zm_330 (n + 4 + 18 * c) 160 [(0, .ref 474), (1, .int 0), (2, .int 1), (3, .int (nI t)), (4, .int (nI w)), (5, .int (nI i))] [] (zmM M (zcp f g (w + 15) i) g cl (nI rs)) = res := by
  intro c
  induction c with
  | zero =>
    intro i hi
    have hi : i = rs := by omega
    subst hi
    refine zr_s0 rfl rfl rfl rfl ?_
    refine zr_s0 rfl rfl rfl rfl ?_
    refine zr_get rfl rfl (zm_o hM) rfl ?_
    refine zr_icmp (t := 195) rfl rfl (fun _ => hk) (fun h => absurd h zc_self)
  | succ c ih =>
    intro i hi
    have e : n + 4 + 18 * (c + 1) = (n + 4 + 18 * c) + 18 := by omega
    rw [e]
    refine zr_s0 rfl rfl rfl rfl ?_
    refine zr_s0 rfl rfl rfl rfl ?_
    refine zr_get rfl rfl (zm_o hM) rfl ?_
    refine zr_icmp (t := 195) rfl rfl (fun h => absurd h (zc_nge (by omega) (by omega))) (fun _ => ?_)
    refine zr_s0 rfl rfl rfl rfl ?_
    refine zr_get rfl rfl (zm_o hM) rfl ?_
    refine zr_s0 rfl rfl rfl rfl ?_
    refine zr_s0 rfl rfl rfl rfl ?_
    refine zr_s0 rfl rfl rfl rfl ?_
    refine zr_s0 rfl rfl rfl rfl ?_
    refine zr_s0 rfl rfl rfl rfl ?_
    refine zr_s0 rfl rfl rfl rfl ?_
    refine zr_get rfl rfl (zm_o hM) rfl ?_
    refine zr_s0 rfl rfl rfl rfl ?_
    refine zr_ialdR (k := i) rfl hM rfl (by omega) rfl ?_
    refine zr_iastM (k := w + 15 + i) rfl hM (by rw [show (Int8.ofInt 15).toInt32 = nI 15 by decide, nI_add, nI_add]) (by omega) ?_
    rw [zcp_S]
    refine zr_s0 rfl rfl rfl rfl ?_
    refine zr_s0 rfl rfl rfl rfl ?_
    have e2 : nI i + Int32.ofInt 1 = nI (i + 1) := nI_1 i
    rw [e2]
    exact ih (i + 1) (by omega)
end ZNW
theorem nI_inj {a b : Nat} (ha : a < 2 ^ 31) (hb : b < 2 ^ 31) (h : nI a = nI b) : a = b := by
  have : (nI a).toNatClampNeg = (nI b).toNatClampNeg := by rw [h]
  rwa [nI_clamp ha, nI_clamp hb] at this
/-- what newWord writes -/
def znwA (f : Nat → Int32) (t : Nat) : Nat → Int32 := upd (upd (upd (upd (zclr (upd f 4 (nI (t + 1))) (8292 + 40 * t) 40) (8292 + 40 * t) 0) (8292 + 40 * t + 5) (Int32.ofInt (-1))) (8292 + 40 * t + 8) (Int32.ofInt (-1))) (8292 + 40 * t + 11) (Int32.ofInt (-1))
def znw (f g : Nat → Int32) (t rs : Nat) : Nat → Int32 := upd (zcp (upd (upd (znwA f t) (8292 + 40 * t + 1) (znwA f t 11)) (8292 + 40 * t + 6) (nI rs)) g (8292 + 40 * t + 15) rs) 16 (nI t)
theorem upd_ne {f : Nat → Int32} {a b : Nat} {v : Int32} (h : b ≠ a) : upd f a v b = f b := by
  unfold upd
  rw [if_neg h]
theorem upd_eq {f : Nat → Int32} {a : Nat} {v : Int32} : upd f a v a = v := by
  unfold upd
  rw [if_pos rfl]
theorem znw_4 {f g : Nat → Int32} {t rs : Nat} : znw f g t rs 4 = nI (t + 1) := by
  unfold znw
  rw [upd_ne (by omega)]
  unfold zcp
  rw [if_neg (by omega), upd_ne (by omega), upd_ne (by omega)]
  unfold znwA
  rw [upd_ne (by omega), upd_ne (by omega), upd_ne (by omega), upd_ne (by omega)]
  unfold zclr
  rw [if_neg (by omega), upd_eq]
theorem zm_newWord {X : zX} {call : zCall} {M : zM} {f g : Nat → Int32} {cl : Int32} {t rs n : Nat} (hM : 486 ≤ M.1) (ht : t < 172) (hrs : rs < 24) (hf : f 4 = nI t) (hW : ∀ f, call 324 [.ref 474, .int (nI t)] (zmM M f g cl (nI rs)) = some (some (.int (nI (8292 + 40 * t))), zmM M f g cl (nI rs))) : zrun X zmt call zm_330 (n + 4 + 18 * rs + 600) 0 [(0, .ref 474), (1, .int 0), (2, .int 1)] [] (zmM M f g cl (nI rs)) = some (some (.int (nI t)), zmM M (znw f g t rs) g cl (nI rs)) := by
  refine zr_s0 rfl rfl rfl rfl ?_
  refine zr_get rfl rfl (zm_o hM) rfl ?_
  refine zr_s0 rfl rfl rfl rfl ?_
  refine zr_get rfl rfl (zm_o hM) rfl ?_
  refine zr_s0 rfl rfl rfl rfl ?_
  refine zr_s0 rfl rfl rfl rfl ?_
  refine zr_ialdM (k := 4) rfl hM (by decide) (by decide) hf ?_
  refine zr_s0 rfl rfl rfl rfl ?_
  refine zr_s0 rfl rfl rfl rfl ?_
  refine zr_s0 rfl rfl rfl rfl ?_
  refine zr_icmp (t := 27) rfl rfl (fun _ => ?_) (fun h => absurd (of_decide_eq_false (show zcI .ne (nI t) (nI 360) = false from h)) (fun q => q (fun z => absurd (nI_inj (a := t) (b := 360) (by omega) (by decide) z) (by omega))))
  refine zr_s0 rfl rfl rfl rfl ?_
  refine zr_get rfl rfl (zm_o hM) rfl ?_
  refine zr_s0 rfl rfl rfl rfl ?_
  refine zr_get rfl rfl (zm_o hM) rfl ?_
  refine zr_s0 rfl rfl rfl rfl ?_
  refine zr_s0 rfl rfl rfl rfl ?_
  refine zr_s0 rfl rfl rfl rfl ?_
  refine zr_ialdM (k := 4) rfl hM (by decide) (by decide) hf ?_
  refine zr_s0 rfl rfl rfl rfl ?_
  refine zr_s0 rfl rfl rfl rfl ?_
  have e1 : nI t + Int32.ofInt 1 = nI (t + 1) := nI_1 t
  rw [e1]
  refine zr_iastM (k := 4) rfl hM (by decide) (by decide) ?_
  refine zr_s0 rfl rfl rfl rfl ?_
  refine zr_s0 rfl rfl rfl rfl ?_
  refine zr_callV rfl rfl rfl rfl (by decide) (zm_o hM) rfl ⟨Or.inl rfl, rfl, rfl, rfl, rfl, rfl, Nat.le_of_ble_eq_true rfl⟩ (hW _) ?_
  refine zr_s0 rfl rfl rfl rfl ?_
  refine zr_s0 rfl rfl rfl rfl ?_
  refine zr_s0 rfl rfl rfl rfl ?_
  rw [show n + 4 + 18 * rs + 572 = (n + 4 + 18 * rs + 89) + 3 + 12 * 40 by omega]
  have hz : zmM M (upd f 4 (nI (t + 1))) g cl (nI rs) = zmM M (zclr (upd f 4 (nI (t + 1))) (8292 + 40 * t) 0) g cl (nI rs) := by rw [zclr_0]
  rw [hz]
  refine nw_clear hM (by omega) ?_ 40 0 rfl
  refine zr_s0 rfl rfl rfl rfl ?_
  refine zr_get rfl rfl (zm_o hM) rfl ?_
  refine zr_s0 rfl rfl rfl rfl ?_
  refine zr_s0 rfl rfl rfl rfl ?_
  refine zr_s0 rfl rfl rfl rfl ?_
  refine zr_s0 rfl rfl rfl rfl ?_
  refine zr_iastM (k := 8292 + 40 * t) rfl hM (by rw [show Int32.ofInt 0 = nI 0 by decide, nI_add, Nat.add_zero]) (by omega) ?_
  refine zr_s0 rfl rfl rfl rfl ?_
  refine zr_get rfl rfl (zm_o hM) rfl ?_
  refine zr_s0 rfl rfl rfl rfl ?_
  refine zr_s0 rfl rfl rfl rfl ?_
  refine zr_s0 rfl rfl rfl rfl ?_
  refine zr_s0 rfl rfl rfl rfl ?_
  refine zr_iastM (k := 8292 + 40 * t + 5) rfl hM (by rw [show Int32.ofInt 5 = nI 5 by decide, nI_add]) (by omega) ?_
  refine zr_s0 rfl rfl rfl rfl ?_
  refine zr_get rfl rfl (zm_o hM) rfl ?_
  refine zr_s0 rfl rfl rfl rfl ?_
  refine zr_s0 rfl rfl rfl rfl ?_
  refine zr_s0 rfl rfl rfl rfl ?_
  refine zr_s0 rfl rfl rfl rfl ?_
  refine zr_iastM (k := 8292 + 40 * t + 8) rfl hM (by rw [show (Int8.ofInt 8).toInt32 = nI 8 by decide, nI_add]) (by omega) ?_
  refine zr_s0 rfl rfl rfl rfl ?_
  refine zr_get rfl rfl (zm_o hM) rfl ?_
  refine zr_s0 rfl rfl rfl rfl ?_
  refine zr_s0 rfl rfl rfl rfl ?_
  refine zr_s0 rfl rfl rfl rfl ?_
  refine zr_s0 rfl rfl rfl rfl ?_
  refine zr_iastM (k := 8292 + 40 * t + 11) rfl hM (by rw [show (Int8.ofInt 11).toInt32 = nI 11 by decide, nI_add]) (by omega) ?_
  refine zr_s0 rfl rfl rfl rfl ?_
  refine zr_if (t := 208) rfl rfl (fun h => absurd h (by decide)) (fun _ => ?_)
  refine zr_s0 rfl rfl rfl rfl ?_
  refine zr_get rfl rfl (zm_o hM) rfl ?_
  refine zr_s0 rfl rfl rfl rfl ?_
  refine zr_s0 rfl rfl rfl rfl ?_
  refine zr_s0 rfl rfl rfl rfl ?_
  refine zr_s0 rfl rfl rfl rfl ?_
  refine zr_get rfl rfl (zm_o hM) rfl ?_
  refine zr_s0 rfl rfl rfl rfl ?_
  refine zr_get rfl rfl (zm_o hM) rfl ?_
  refine zr_s0 rfl rfl rfl rfl ?_
  refine zr_s0 rfl rfl rfl rfl ?_
  refine zr_ialdM (k := 11) rfl hM (by decide) (by decide) rfl ?_
  refine zr_iastM (k := 8292 + 40 * t + 1) rfl hM (by rw [show Int32.ofInt 1 = nI 1 by decide, nI_add]) (by omega) ?_
  refine zr_s0 rfl rfl rfl rfl ?_
  refine zr_get rfl rfl (zm_o hM) rfl ?_
  refine zr_s0 rfl rfl rfl rfl ?_
  refine zr_s0 rfl rfl rfl rfl ?_
  refine zr_s0 rfl rfl rfl rfl ?_
  refine zr_s0 rfl rfl rfl rfl ?_
  refine zr_get rfl rfl (zm_o hM) rfl ?_
  refine zr_iastM (k := 8292 + 40 * t + 6) rfl hM (by rw [show (Int8.ofInt 6).toInt32 = nI 6 by decide, nI_add]) (by omega) ?_
  refine zr_s0 rfl rfl rfl rfl ?_
  refine zr_s0 rfl rfl rfl rfl ?_
  rw [show n + 4 + 18 * rs + 36 = (n + 36) + 4 + 18 * rs by omega]
  have hz2 : zmM M (upd (upd (znwA f t) (8292 + 40 * t + 1) (znwA f t 11)) (8292 + 40 * t + 6) (nI rs)) g cl (nI rs) = zmM M (zcp (upd (upd (znwA f t) (8292 + 40 * t + 1) (znwA f t 11)) (8292 + 40 * t + 6) (nI rs)) g (8292 + 40 * t + 15) 0) g cl (nI rs) := by rw [zcp_0]
  refine Eq.trans (congrArg (zrun X zmt call zm_330 _ _ _ _) hz2) ?_
  refine nw_copy hM (by omega) hrs ?_ rs 0 (by omega)
  refine zr_s0 rfl rfl rfl rfl ?_
  refine zr_get rfl rfl (zm_o hM) rfl ?_
  refine zr_s0 rfl rfl rfl rfl ?_
  refine zr_get rfl rfl (zm_o hM) rfl ?_
  refine zr_s0 rfl rfl rfl rfl ?_
  refine zr_s0 rfl rfl rfl rfl ?_
  refine zr_s0 rfl rfl rfl rfl ?_
  refine zr_iastM (k := 16) rfl hM (by decide) (by decide) ?_
  refine zr_s0 rfl rfl rfl rfl ?_
  exact zr_reti rfl rfl
