/-! the reference makes a system: its loops -/
def zfl (f : Nat → Int32) (w : Nat) (v : Int32) (i : Nat) : Nat → Int32 := fun j => if w ≤ j ∧ j < w + i then v else f j
theorem zfl_0 (f : Nat → Int32) (w : Nat) (v : Int32) : zfl f w v 0 = f := by
  funext j
  unfold zfl
  rw [if_neg (by omega)]
theorem zfl_S (f : Nat → Int32) (w : Nat) (v : Int32) (i : Nat) : upd (zfl f w v i) (w + i) v = zfl f w v (i + 1) := by
  funext j
  unfold upd zfl
  by_cases q : j = w + i
  · rw [if_pos q, if_pos (by omega)]
  · rw [if_neg q]
    by_cases q2 : w ≤ j ∧ j < w + i
    · rw [if_pos q2, if_pos (by omega)]
    · rw [if_neg q2, if_neg (by omega)]
section ZSYS
variable {X : zX} {call : zCall} {M : zM} {g : Nat → Int32} {cl rs va vb : Int32} {R : Option (Option Value × Nat × Nat)}
theorem sys_clear {n : Nat} (hM : 486 ≤ M.1) {f : Nat → Int32} (hk : zq (zrun X zmt call zm_462 n 74 [(0, .ref 474), (1, .int va), (2, .int vb), (3, .int 0), (4, .int (nI 39700))] [] (zmM M (zfl f 0 0 39700) g cl rs)) = R) : ∀ c i, i + c = 39700 → zq (zrun X zmt call zm_462 (n + 3 + 13 * c) 47 [(0, .ref 474), (1, .int va), (2, .int vb), (3, .int 0), (4, .int (nI i))] [] (zmM M (zfl f 0 0 i) g cl rs)) = R := by
  intro c
  induction c with
  | zero =>
    intro i hi
    have hi : i = 39700 := by omega
    subst hi
    refine zq_of (zr_s0 rfl rfl rfl rfl rfl) ?_
    refine zq_of (zr_s1 rfl rfl rfl rfl rfl rfl) ?_
    refine zq_icmp (t := 74) rfl rfl (fun _ => hk) (fun h => absurd (show zcI .ge (nI 39700) (nI 39700) = false from h) zc_self)
  | succ c ih =>
    intro i hi
    have e : n + 3 + 13 * (c + 1) = (n + 3 + 13 * c) + 13 := by omega
    rw [e]
    refine zq_of (zr_s0 rfl rfl rfl rfl rfl) ?_
    refine zq_of (zr_s1 rfl rfl rfl rfl rfl rfl) ?_
    refine zq_icmp (t := 74) rfl rfl (fun h => absurd (show zcI .ge (nI i) (nI 39700) = true from h) (zc_nge (by omega) (by decide))) (fun _ => ?_)
    refine zq_of (zr_s0 rfl rfl rfl rfl rfl) ?_
    refine zq_of (zr_get rfl rfl (zm_o hM) rfl rfl) ?_
    refine zq_of (zr_s0 rfl rfl rfl rfl rfl) ?_
    refine zq_of (zr_get rfl rfl (zm_o hM) rfl rfl) ?_
    refine zq_of (zr_s0 rfl rfl rfl rfl rfl) ?_
    refine zq_of (zr_s0 rfl rfl rfl rfl rfl) ?_
    refine zq_of (zr_s0 rfl rfl rfl rfl rfl) ?_
    refine zq_of (zr_iastM (k := 0 + i) rfl hM (by rw [show (0 : Int32) = nI 0 by decide, nI_add]) (by omega) rfl) ?_
    rw [show Int32.ofInt 0 = 0 by decide, zfl_S]
    refine zq_of (zr_s0 rfl rfl rfl rfl rfl) ?_
    refine zq_of (zr_s0 rfl rfl rfl rfl rfl) ?_
    have e2 : nI i + Int32.ofInt 1 = nI (i + 1) := nI_1 i
    rw [e2]
    exact ih (i + 1) (by omega)
theorem sys_blank {n : Nat} (hM : 486 ≤ M.1) {f : Nat → Int32} (hk : zq (zrun X zmt call zm_462 n 259 [(0, .ref 474), (1, .int va), (2, .int vb), (3, .int 0), (4, .int (nI 4096))] [] (zmM M (zfl f 4196 32 4096) g cl rs)) = R) : ∀ c i, i + c = 4096 → zq (zrun X zmt call zm_462 (n + 3 + 15 * c) 227 [(0, .ref 474), (1, .int va), (2, .int vb), (3, .int 0), (4, .int (nI i))] [] (zmM M (zfl f 4196 32 i) g cl rs)) = R := by
  intro c
  induction c with
  | zero =>
    intro i hi
    have hi : i = 4096 := by omega
    subst hi
    refine zq_of (zr_s0 rfl rfl rfl rfl rfl) ?_
    refine zq_of (zr_s0 rfl rfl rfl rfl rfl) ?_
    refine zq_icmp (t := 259) rfl rfl (fun _ => hk) (fun h => absurd (show zcI .ge (nI 4096) (nI 4096) = false from h) zc_self)
  | succ c ih =>
    intro i hi
    have e : n + 3 + 15 * (c + 1) = (n + 3 + 15 * c) + 15 := by omega
    rw [e]
    refine zq_of (zr_s0 rfl rfl rfl rfl rfl) ?_
    refine zq_of (zr_s0 rfl rfl rfl rfl rfl) ?_
    refine zq_icmp (t := 259) rfl rfl (fun h => absurd (show zcI .ge (nI i) (nI 4096) = true from h) (zc_nge (by omega) (by decide))) (fun _ => ?_)
    refine zq_of (zr_s0 rfl rfl rfl rfl rfl) ?_
    refine zq_of (zr_get rfl rfl (zm_o hM) rfl rfl) ?_
    refine zq_of (zr_s0 rfl rfl rfl rfl rfl) ?_
    refine zq_of (zr_get rfl rfl (zm_o hM) rfl rfl) ?_
    refine zq_of (zr_s0 rfl rfl rfl rfl rfl) ?_
    refine zq_of (zr_s0 rfl rfl rfl rfl rfl) ?_
    refine zq_of (zr_s0 rfl rfl rfl rfl rfl) ?_
    refine zq_of (zr_s0 rfl rfl rfl rfl rfl) ?_
    refine zq_of (zr_s0 rfl rfl rfl rfl rfl) ?_
    refine zq_of (zr_iastM (k := 4196 + i) rfl hM (by rw [show (0 : Int32) + (Int16.ofInt 4196).toInt32 = nI 4196 by decide, nI_add]) (by omega) rfl) ?_
    rw [show (Int8.ofInt 32).toInt32 = 32 by decide, zfl_S]
    refine zq_of (zr_s0 rfl rfl rfl rfl rfl) ?_
    refine zq_of (zr_s0 rfl rfl rfl rfl rfl) ?_
    have e2 : nI i + Int32.ofInt 1 = nI (i + 1) := nI_1 i
    rw [e2]
    exact ih (i + 1) (by omega)
theorem sys_wordA {t n : Nat} {f : Nat → Int32} (hM : 486 ≤ M.1) (hM2 : M.1 ≤ 1000000) (hC : ∀ (M : zM) (k : Nat), M.1 ≤ 1000000 → k < (zsb 9).length → call 502 [.ref 1000009, .int (nI k)] M = some (some (.int ((zsb 9).getD k 0)), M)) (rest : List Int32) : ∀ (w : List Int32) (a k : Nat) (g : Nat → Int32), (zsb 9).drop a = w ++ 32 :: rest → (∀ c ∈ w, c ≠ 32) → k + w.length < 24 → (∀ g', zq (zrun X zmt call zm_462 n 324 [(0, .ref 474), (1, .int va), (2, .int vb), (3, .int 0), (4, .int (nI (a + w.length))), (5, .int (nI t))] [] (zmM M f g' cl (nI (k + w.length)))) = R) → zq (zrun X zmt call zm_462 (n + 5 + 21 * w.length) 278 [(0, .ref 474), (1, .int va), (2, .int vb), (3, .int 0), (4, .int (nI a)), (5, .int (nI t))] [] (zmM M f g cl (nI k))) = R := by
  have hlen : (zsb 9).length < 2 ^ 31 := (zsb_char 9 (by decide)).1
  intro w
  induction w with
  | nil =>
    intro a k g hd hw hk hK
    have hlt : a < (zsb 9).length := by
      by_cases z : a < (zsb 9).length
      · exact z
      · rw [List.drop_eq_nil_of_le (by omega)] at hd
        cases hd
    have hc : (zsb 9).getD a 0 = 32 := by
      rw [List.drop_eq_getElem_cons hlt] at hd
      rw [List.getD_eq_getElem?_getD, List.getElem?_eq_getElem hlt]
      exact (List.cons.inj hd).1
    refine zq_of (zr_s1 rfl rfl rfl rfl rfl rfl) ?_
    refine zq_of (zr_s0 rfl rfl rfl rfl rfl) ?_
    refine zq_of (zr_callT rfl rfl rfl rfl (by decide) ⟨Or.inl rfl, rfl, rfl, rfl, rfl, rfl, Nat.le_of_ble_eq_true rfl⟩ (hC _ _ hM2 hlt) rfl) ?_
    rw [hc]
    refine zq_of (zr_s0 rfl rfl rfl rfl rfl) ?_
    refine zq_icmp (t := 324) rfl rfl (fun _ => hK g) (fun h => absurd (show zcI .eq 32 32 = false from h) (by decide))
  | cons c w ih =>
    intro a k g hd hw hk hK
    rw [List.length_cons] at hk hK
    have hlt : a < (zsb 9).length := by
      by_cases z : a < (zsb 9).length
      · exact z
      · rw [List.drop_eq_nil_of_le (by omega)] at hd
        cases hd
    have hd1 := hd
    rw [List.drop_eq_getElem_cons hlt] at hd1
    have hc : (zsb 9).getD a 0 = c := by
      rw [List.getD_eq_getElem?_getD, List.getElem?_eq_getElem hlt]
      exact (List.cons.inj hd1).1
    have hd2 : (zsb 9).drop (a + 1) = w ++ 32 :: rest := (List.cons.inj hd1).2
    have h32 : c ≠ 32 := hw c List.mem_cons_self
    have e : n + 5 + 21 * (c :: w).length = (n + 5 + 21 * w.length) + 21 := by rw [List.length_cons]; omega
    rw [e]
    have e2 : nI a + Int32.ofInt 1 = nI (a + 1) := nI_1 a
    have e3 : nI k + Int32.ofInt 1 = nI (k + 1) := nI_1 k
    have hi := ih (a + 1) (k + 1) (upd g k c) hd2 (fun x hx => hw x (List.mem_cons_of_mem _ hx)) (by omega) (by rw [show a + 1 + w.length = a + (w.length + 1) by omega, show k + 1 + w.length = k + (w.length + 1) by omega]; exact hK)
    refine zq_of (zr_s1 rfl rfl rfl rfl rfl rfl) ?_
    refine zq_of (zr_s0 rfl rfl rfl rfl rfl) ?_
    refine zq_of (zr_callT rfl rfl rfl rfl (by decide) ⟨Or.inl rfl, rfl, rfl, rfl, rfl, rfl, Nat.le_of_ble_eq_true rfl⟩ (hC _ _ hM2 hlt) rfl) ?_
    rw [hc]
    refine zq_of (zr_s0 rfl rfl rfl rfl rfl) ?_
    refine zq_icmp (t := 324) rfl rfl (fun h => absurd (of_decide_eq_true (show zcI .eq c 32 = true from h)) h32) (fun _ => ?_)
    refine zq_of (zr_s0 rfl rfl rfl rfl rfl) ?_
    refine zq_of (zr_get rfl rfl (zm_o hM) rfl rfl) ?_
    refine zq_of (zr_s0 rfl rfl rfl rfl rfl) ?_
    refine zq_of (zr_get rfl rfl (zm_o hM) rfl rfl) ?_
    refine zq_of (zr_s1 rfl rfl rfl rfl rfl rfl) ?_
    refine zq_of (zr_s0 rfl rfl rfl rfl rfl) ?_
    refine zq_of (zr_callT rfl rfl rfl rfl (by decide) ⟨Or.inl rfl, rfl, rfl, rfl, rfl, rfl, Nat.le_of_ble_eq_true rfl⟩ (hC _ _ hM2 hlt) rfl) ?_
    rw [hc]
    refine zq_of (zr_iastR (k := k) rfl hM rfl (by omega) rfl) ?_
    refine zq_of (zr_s0 rfl rfl rfl rfl rfl) ?_
    refine zq_of (zr_s0 rfl rfl rfl rfl rfl) ?_
    refine zq_of (zr_get rfl rfl (zm_o hM) rfl rfl) ?_
    refine zq_of (zr_s0 rfl rfl rfl rfl rfl) ?_
    refine zq_of (zr_s0 rfl rfl rfl rfl rfl) ?_
    rw [e3]
    refine zq_of (zr_putM (cl' := cl) (rs' := nI (k + 1)) rfl rfl hM rfl ⟨Nat.le_of_ble_eq_true rfl, Nat.le_of_ble_eq_true rfl, zfit_int _, Or.inl rfl⟩ rfl rfl) ?_
    refine zq_of (zr_s0 rfl rfl rfl rfl rfl) ?_
    refine zq_of (zr_s0 rfl rfl rfl rfl rfl) ?_
    rw [e2]
    exact hi
theorem sys_wordB {t n : Nat} {f : Nat → Int32} {v6 v7 : Int32} (hM : 486 ≤ M.1) (hM2 : M.1 ≤ 1000000) (hC : ∀ (M : zM) (k : Nat), M.1 ≤ 1000000 → k < (zsb 9).length → call 502 [.ref 1000009, .int (nI k)] M = some (some (.int ((zsb 9).getD k 0)), M)) (rest : List Int32) : ∀ (w : List Int32) (a k : Nat) (g : Nat → Int32), (zsb 9).drop a = w ++ 32 :: rest → (∀ c ∈ w, c ≠ 32) → k + w.length < 24 → (∀ g', zq (zrun X zmt call zm_462 n 324 [(0, .ref 474), (1, .int va), (2, .int vb), (3, .int 0), (4, .int (nI (a + w.length))), (5, .int (nI t)), (6, .int v6), (7, .int v7)] [] (zmM M f g' cl (nI (k + w.length)))) = R) → zq (zrun X zmt call zm_462 (n + 5 + 21 * w.length) 278 [(0, .ref 474), (1, .int va), (2, .int vb), (3, .int 0), (4, .int (nI a)), (5, .int (nI t)), (6, .int v6), (7, .int v7)] [] (zmM M f g cl (nI k))) = R := by
  have hlen : (zsb 9).length < 2 ^ 31 := (zsb_char 9 (by decide)).1
  intro w
  induction w with
  | nil =>
    intro a k g hd hw hk hK
    have hlt : a < (zsb 9).length := by
      by_cases z : a < (zsb 9).length
      · exact z
      · rw [List.drop_eq_nil_of_le (by omega)] at hd
        cases hd
    have hc : (zsb 9).getD a 0 = 32 := by
      rw [List.drop_eq_getElem_cons hlt] at hd
      rw [List.getD_eq_getElem?_getD, List.getElem?_eq_getElem hlt]
      exact (List.cons.inj hd).1
    refine zq_of (zr_s1 rfl rfl rfl rfl rfl rfl) ?_
    refine zq_of (zr_s0 rfl rfl rfl rfl rfl) ?_
    refine zq_of (zr_callT rfl rfl rfl rfl (by decide) ⟨Or.inl rfl, rfl, rfl, rfl, rfl, rfl, Nat.le_of_ble_eq_true rfl⟩ (hC _ _ hM2 hlt) rfl) ?_
    rw [hc]
    refine zq_of (zr_s0 rfl rfl rfl rfl rfl) ?_
    refine zq_icmp (t := 324) rfl rfl (fun _ => hK g) (fun h => absurd (show zcI .eq 32 32 = false from h) (by decide))
  | cons c w ih =>
    intro a k g hd hw hk hK
    rw [List.length_cons] at hk hK
    have hlt : a < (zsb 9).length := by
      by_cases z : a < (zsb 9).length
      · exact z
      · rw [List.drop_eq_nil_of_le (by omega)] at hd
        cases hd
    have hd1 := hd
    rw [List.drop_eq_getElem_cons hlt] at hd1
    have hc : (zsb 9).getD a 0 = c := by
      rw [List.getD_eq_getElem?_getD, List.getElem?_eq_getElem hlt]
      exact (List.cons.inj hd1).1
    have hd2 : (zsb 9).drop (a + 1) = w ++ 32 :: rest := (List.cons.inj hd1).2
    have h32 : c ≠ 32 := hw c List.mem_cons_self
    have e : n + 5 + 21 * (c :: w).length = (n + 5 + 21 * w.length) + 21 := by rw [List.length_cons]; omega
    rw [e]
    have e2 : nI a + Int32.ofInt 1 = nI (a + 1) := nI_1 a
    have e3 : nI k + Int32.ofInt 1 = nI (k + 1) := nI_1 k
    have hi := ih (a + 1) (k + 1) (upd g k c) hd2 (fun x hx => hw x (List.mem_cons_of_mem _ hx)) (by omega) (by rw [show a + 1 + w.length = a + (w.length + 1) by omega, show k + 1 + w.length = k + (w.length + 1) by omega]; exact hK)
    refine zq_of (zr_s1 rfl rfl rfl rfl rfl rfl) ?_
    refine zq_of (zr_s0 rfl rfl rfl rfl rfl) ?_
    refine zq_of (zr_callT rfl rfl rfl rfl (by decide) ⟨Or.inl rfl, rfl, rfl, rfl, rfl, rfl, Nat.le_of_ble_eq_true rfl⟩ (hC _ _ hM2 hlt) rfl) ?_
    rw [hc]
    refine zq_of (zr_s0 rfl rfl rfl rfl rfl) ?_
    refine zq_icmp (t := 324) rfl rfl (fun h => absurd (of_decide_eq_true (show zcI .eq c 32 = true from h)) h32) (fun _ => ?_)
    refine zq_of (zr_s0 rfl rfl rfl rfl rfl) ?_
    refine zq_of (zr_get rfl rfl (zm_o hM) rfl rfl) ?_
    refine zq_of (zr_s0 rfl rfl rfl rfl rfl) ?_
    refine zq_of (zr_get rfl rfl (zm_o hM) rfl rfl) ?_
    refine zq_of (zr_s1 rfl rfl rfl rfl rfl rfl) ?_
    refine zq_of (zr_s0 rfl rfl rfl rfl rfl) ?_
    refine zq_of (zr_callT rfl rfl rfl rfl (by decide) ⟨Or.inl rfl, rfl, rfl, rfl, rfl, rfl, Nat.le_of_ble_eq_true rfl⟩ (hC _ _ hM2 hlt) rfl) ?_
    rw [hc]
    refine zq_of (zr_iastR (k := k) rfl hM rfl (by omega) rfl) ?_
    refine zq_of (zr_s0 rfl rfl rfl rfl rfl) ?_
    refine zq_of (zr_s0 rfl rfl rfl rfl rfl) ?_
    refine zq_of (zr_get rfl rfl (zm_o hM) rfl rfl) ?_
    refine zq_of (zr_s0 rfl rfl rfl rfl rfl) ?_
    refine zq_of (zr_s0 rfl rfl rfl rfl rfl) ?_
    rw [e3]
    refine zq_of (zr_putM (cl' := cl) (rs' := nI (k + 1)) rfl rfl hM rfl ⟨Nat.le_of_ble_eq_true rfl, Nat.le_of_ble_eq_true rfl, zfit_int _, Or.inl rfl⟩ rfl rfl) ?_
    refine zq_of (zr_s0 rfl rfl rfl rfl rfl) ?_
    refine zq_of (zr_s0 rfl rfl rfl rfl rfl) ?_
    rw [e2]
    exact hi
end ZSYS
