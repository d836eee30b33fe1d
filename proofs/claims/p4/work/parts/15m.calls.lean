section ZRC
variable {X : zX} {mt : Nat → Option zMe} {call : zCall} {r r' : zMe} {n pc len pc' t a k p x : Nat} {ls ls' : zL} {st st' rest : List Value} {M M' : zM} {i : Instr} {res : Option (Option Value × zM)} {v : Option Value}
theorem zr_s3 (htb : r.2.2.2.2.2.2.2 pc = some (i, len)) (hk : zlok i len = true) (hr : zret r.2.2.2.1 i st = none) (h0 : zs0 pc ls st r.2.2.1 i len = none) (h1 : zs1 X r.2.2.2.2.2.1 (r.2.2.2.2.2.2.1 == 2) pc ls st M i = none) (hs : zs3 X r.2.2.2.2.2.1 pc ls st M i = some (pc', ls', st', M')) (h : zrun X mt call r n pc' ls' st' M' = res) : zrun X mt call r (n + 1) pc ls st M = res := zr_step htb hk hr (by unfold zstep; rw [h0]; dsimp only; rw [h1]; dsimp only; rw [hs]) h
theorem zr_s2 (htb : r.2.2.2.2.2.2.2 pc = some (i, len)) (hk : zlok i len = true) (hr : zret r.2.2.2.1 i st = none) (h0 : zs0 pc ls st r.2.2.1 i len = none) (h1 : zs1 X r.2.2.2.2.2.1 (r.2.2.2.2.2.2.1 == 2) pc ls st M i = none) (h3 : zs3 X r.2.2.2.2.2.1 pc ls st M i = none) (hs : zs2 mt call r.2.2.2.2.2.1 pc ls st M i = some (pc', ls', st', M')) (h : zrun X mt call r n pc' ls' st' M' = res) : zrun X mt call r (n + 1) pc ls st M = res := zr_step htb hk hr (by unfold zstep; rw [h0]; dsimp only; rw [h1]; dsimp only; rw [h3]; exact hs) h
theorem zr_callS (htb : r.2.2.2.2.2.2.2 pc = some (.invokestatic x, 3)) (hlk : zlk r.2.2.2.2.2.1 x = some (t, a, k, p)) (hmt : mt a = some r') (hc : (t = 1 ∨ t = 2) ∧ zmn a = r'.1 ∧ r'.2.2.2.2.1 = k ∧ r'.2.2.2.2.2.2.1 = 0 ∧ (st.take k).length = k ∧ ((st.drop k).map fun v => v.category).sum ≤ 8) (hcall : call a (st.take k).reverse M = some (v, M')) (h : zrun X mt call r n (pc + 3) ls (v.toList ++ st.drop k) M' = res) : zrun X mt call r (n + 1) pc ls st M = res := by
  refine zr_s2 htb rfl rfl rfl ?_ rfl ?_ h
  · rcases hc.1 with rfl | rfl <;> simp only [zs1, hlk]
  · simp only [zs2, hlk, hmt]
    rw [if_pos hc, hcall]
theorem zr_callI {b : Nat} (htb : r.2.2.2.2.2.2.2 pc = some (.invokespecial x, 3)) (hlk : zlk r.2.2.2.2.2.1 x = some (t, a, k, p)) (hmt : mt a = some r') (hst : st.drop k = .ref b :: rest) (hc : (t = 1 ∨ t = 2) ∧ zmn a = r'.1 ∧ r'.2.2.2.2.1 = k ∧ r'.2.2.2.2.2.2.1 = 2 ∧ (st.take k).length = k ∧ (rest.map fun v => v.category).sum ≤ 8) (hcall : call a (.ref b :: (st.take k).reverse) M = some (v, M')) (h : zrun X mt call r n (pc + 3) ls (v.toList ++ rest) M' = res) : zrun X mt call r (n + 1) pc ls st M = res := by
  refine zr_s2 htb rfl rfl rfl ?_ rfl ?_ h
  · rcases hc.1 with rfl | rfl <;> simp only [zs1, hlk]
  · simp only [zs2, hlk, hmt, hst]
    rw [if_pos hc, hcall]
theorem zr_callV {b ci : Nat} {fs : List Value} {w : vw_C} (htb : r.2.2.2.2.2.2.2 pc = some (.invokevirtual x, 3)) (hlk : zlk r.2.2.2.2.2.1 x = some (t, a, k, p)) (hmt : mt a = some r') (hst : st.drop k = .ref b :: rest) (hb : b < 1000000) (hob : zob M b = some (.inr (ci, fs))) (hw : zcls[ci]? = some w) (hc : (t = 1 ∨ t = 2) ∧ zmn a = r'.1 ∧ r'.2.2.2.2.1 = k ∧ r'.2.2.2.2.2.2.1 = 1 ∧ w.1 = r'.1.cls ∧ (st.take k).length = k ∧ (rest.map fun v => v.category).sum ≤ 8) (hcall : call a (.ref b :: (st.take k).reverse) M = some (v, M')) (h : zrun X mt call r n (pc + 3) ls (v.toList ++ rest) M' = res) : zrun X mt call r (n + 1) pc ls st M = res := by
  refine zr_s2 htb rfl rfl rfl rfl rfl ?_ h
  simp only [zs2, hlk, hmt, hst]
  rw [if_neg (fun q => absurd (Nat.lt_of_le_of_lt q.1 hb) (Nat.lt_irrefl _)), hob]
  simp only [hw]
  rw [if_pos hc, hcall]
theorem zr_callT {b : Nat} (htb : r.2.2.2.2.2.2.2 pc = some (.invokevirtual x, 3)) (hlk : zlk r.2.2.2.2.2.1 x = some (t, a, k, p)) (hmt : mt a = some r') (hst : st.drop k = .ref b :: rest) (hb : 1000000 ≤ b ∧ b < 1000013) (hc : (t = 1 ∨ t = 2) ∧ zmn a = r'.1 ∧ r'.2.2.2.2.1 = k ∧ r'.2.2.2.2.2.2.1 = 1 ∧ "java/lang/String" = r'.1.cls ∧ (st.take k).length = k ∧ (rest.map fun v => v.category).sum ≤ 8) (hcall : call a (.ref b :: (st.take k).reverse) M = some (v, M')) (h : zrun X mt call r n (pc + 3) ls (v.toList ++ rest) M' = res) : zrun X mt call r (n + 1) pc ls st M = res := by
  refine zr_s2 htb rfl rfl rfl rfl rfl ?_ h
  simp only [zs2, hlk, hmt, hst]
  rw [if_pos hb, if_pos hc, hcall]
end ZRC
theorem zev_S {th : Nat} {X : zX} {mt : Nat → Option zMe} {ov : zCall} {d n a : Nat} {av : List Value} {M : zM} {r : zMe} {res : Option (Option Value × zM)} (ho : ov a av M = none) (hr : mt a = some r) (hl : (lg_sl av).length ≤ r.2.2.1) (h : zrun X mt (zev th X mt ov d n) r n 0 (lv_args 0 av) [] M = res) : zev th X mt ov (d + 1) n a av M = res := by
  rw [zev, ho]
  dsimp only
  rw [hr]
  dsimp only
  rw [if_pos hl]
  exact h
theorem zr_reti {X : zX} {mt : Nat → Option zMe} {call : zCall} {r : zMe} {n pc : Nat} {ls : zL} {M : zM} {v : Int32} (htb : r.2.2.2.2.2.2.2 pc = some (.ireturn, 1)) (hr : r.2.2.2.1 = some .int) : zrun X mt call r (n + 1) pc ls [.int v] M = some (some (.int v), M) := zr_ret htb rfl (by rw [hr]; simp [zret, narrow])
theorem zr_retn {X : zX} {mt : Nat → Option zMe} {call : zCall} {r : zMe} {n pc : Nat} {ls : zL} {M : zM} {v : Int32} {ty : FieldType} (htb : r.2.2.2.2.2.2.2 pc = some (.ireturn, 1)) (hr : r.2.2.2.1 = some ty) (h : narrow ty (.int v) = .int v) : zrun X mt call r (n + 1) pc ls [.int v] M = some (some (.int v), M) := zr_ret htb rfl (by rw [hr]; simp [zret, h])
def zov0 : zCall := fun _ _ _ => none
theorem zov0_ok {th : Nat} {l : Launch} {base : Nat} {ex : Nat → Nat} {dC : Nat → ClassId} {dI : Nat → Nat → Nat} {X : zX} {mt : Nat → Option zMe} : zOv th l base ex dC dI X mt zov0 := fun _ _ _ _ _ h => by cases h
theorem shr0 (x : Int32) : x >>> ((0 : Int32) &&& 31) = x := by
  have e : ((0 : Int32) &&& 31) = 0 := by decide
  rw [e]
  simp
/-- String.length() and charAt(k) of a constant -/
theorem str_coder {X : zX} {call : zCall} {M : zM} {q n : Nat} (hq : 1000000 ≤ q ∧ q < 1000013) : zrun X zmt call zm_503 (n + 6) 0 [(0, .ref q)] [] M = some (some (.int 0), M) := by
  refine zr_s3 rfl rfl rfl rfl rfl rfl ?_
  refine zr_if (t := 13) rfl rfl (fun h => absurd h (by decide)) (fun _ => ?_)
  refine zr_s0 rfl rfl rfl rfl ?_
  refine zr_s3 (pc' := 10) (ls' := [(0, .ref q)]) (st' := [.int 0]) (M' := M) rfl rfl rfl rfl rfl (by
    show (if 1000000 ≤ q ∧ q < 1000013 then _ else none) = _
    rw [if_pos hq]
    rfl) ?_
  refine zr_s0 rfl rfl rfl rfl ?_
  exact zr_ret rfl rfl rfl
theorem str_arr {X : zX} {own : Nat} {ini : Bool} {pc : Nat} {ls : zL} {M : zM} {q : Nat} {r : List Value} (hq : 1000000 ≤ q ∧ q < 1000013) (hM : M.1 ≤ 1000000) : zs1 X own ini pc ls (.ref (q + 20) :: r) M .arraylength = none ∧ ∀ j, zs1 X own ini pc ls (.int j :: .ref (q + 20) :: r) M .baload = none := by
  have hq' : @LE.le Nat _ 1000000 q ∧ @LT.lt Nat _ q 1000013 := hq
  have hob : zob M (q + 20) = none := by
    unfold zob
    rw [if_neg (by omega)]
  have h16 : ¬ q + 20 = 1000016 := by omega
  have hst : zstat (q + 20) = none := by
    unfold zstat
    rw [if_neg (by omega), if_neg (by omega), if_neg (by omega)]
  refine ⟨?_, fun j => ?_⟩
  · simp only [zs1]
    rw [if_neg h16, hob]
  · simp only [zs1]
    rw [hst, hob]
theorem zr_slen {X : zX} {mt : Nat → Option zMe} {call : zCall} {r : zMe} {n pc : Nat} {ls : zL} {M : zM} {q : Nat} {rest : List Value} {res : Option (Option Value × zM)} (htb : r.2.2.2.2.2.2.2 pc = some (.arraylength, 1)) (hq : 1000000 ≤ q ∧ q < 1000013) (hM : M.1 ≤ 1000000) (h : zrun X mt call r n (pc + 1) ls (.int (nI (zsb (q - 1000000)).length) :: rest) M = res) : zrun X mt call r (n + 1) pc ls (.ref (q + 20) :: rest) M = res := by
  refine zr_s3 htb rfl rfl rfl (str_arr hq hM).1 ?_ h
  have hq' : @LE.le Nat _ 1000000 q ∧ @LT.lt Nat _ q 1000013 := hq
  have e1 : q + 20 - 1000020 = q - 1000000 := by omega
  simp only [zs3]
  rw [if_pos (show @LE.le Nat _ 1000020 (q + 20) ∧ @LT.lt Nat _ (q + 20) 1000033 by omega), e1]
  rfl
theorem zr_sbald {X : zX} {mt : Nat → Option zMe} {call : zCall} {r : zMe} {n pc : Nat} {ls : zL} {M : zM} {q k : Nat} {rest : List Value} {res : Option (Option Value × zM)} (htb : r.2.2.2.2.2.2.2 pc = some (.baload, 1)) (hq : 1000000 ≤ q ∧ q < 1000013) (hM : M.1 ≤ 1000000) (hk : k < (zsb (q - 1000000)).length) (hk2 : k < 2 ^ 31) (h : zrun X mt call r n (pc + 1) ls (.int ((zsb (q - 1000000)).getD k 0) :: rest) M = res) : zrun X mt call r (n + 1) pc ls (.int (nI k) :: .ref (q + 20) :: rest) M = res := by
  refine zr_s3 htb rfl rfl rfl ((str_arr hq hM).2 _) ?_ h
  have hq' : @LE.le Nat _ 1000000 q ∧ @LT.lt Nat _ q 1000013 := hq
  have e1 : q + 20 - 1000020 = q - 1000000 := by omega
  simp only [zs3]
  rw [if_pos (show @LE.le Nat _ 1000020 (q + 20) ∧ @LT.lt Nat _ (q + 20) 1000033 by omega), e1, nI_clamp hk2, if_neg]
  intro z
  rcases z with z | z
  · exact nI_pos hk2 z
  · omega
theorem str_length {X : zX} {call : zCall} {M : zM} {q n : Nat} (hq : 1000000 ≤ q ∧ q < 1000013) (hM : M.1 ≤ 1000000) (hc : call 503 [.ref q] M = some (some (.int 0), M)) : zrun X zmt call zm_501 (n + 7) 0 [(0, .ref q)] [] M = some (some (.int (nI (zsb (q - 1000000)).length)), M) := by
  refine zr_s0 rfl rfl rfl rfl ?_
  refine zr_s3 (pc' := 4) (ls' := [(0, .ref q)]) (st' := [.ref (q + 20)]) (M' := M) rfl rfl rfl rfl rfl (by
    show (if 1000000 ≤ q ∧ q < 1000013 then _ else none) = _
    rw [if_pos hq]
    rfl) ?_
  refine zr_slen rfl hq hM ?_
  refine zr_s0 rfl rfl rfl rfl ?_
  refine zr_callT rfl rfl rfl rfl hq ⟨Or.inl rfl, rfl, rfl, rfl, rfl, rfl, Nat.le_of_ble_eq_true rfl⟩ hc ?_
  refine zr_s0 rfl rfl rfl rfl ?_
  rw [shr0]
  exact zr_reti rfl rfl
theorem str_latin {X : zX} {call : zCall} {M : zM} {q n : Nat} (hq : 1000000 ≤ q ∧ q < 1000013) : zrun X zmt call zm_504 (n + 8) 0 [(0, .ref q)] [] M = some (some (.int 1), M) := by
  refine zr_s3 rfl rfl rfl rfl rfl rfl ?_
  refine zr_if (t := 17) rfl rfl (fun h => absurd h (by decide)) (fun _ => ?_)
  refine zr_s0 rfl rfl rfl rfl ?_
  refine zr_s3 (pc' := 10) (ls' := [(0, .ref q)]) (st' := [.int 0]) (M' := M) rfl rfl rfl rfl rfl (by
    show (if 1000000 ≤ q ∧ q < 1000013 then _ else none) = _
    rw [if_pos hq]
    rfl) ?_
  refine zr_if (t := 17) rfl rfl (fun h => absurd h (by decide)) (fun _ => ?_)
  refine zr_s0 rfl rfl rfl rfl ?_
  refine zr_s0 rfl rfl rfl rfl ?_
  exact zr_ret rfl rfl rfl
theorem str_pre {X : zX} {call : zCall} {M : zM} {k m n : Nat} {v : Value} (hk : k < m) (hm : m < 2 ^ 31) (hv : v.category = 1) : zrun X zmt call zm_515 (n + 7) 0 [(0, .int (nI k)), (1, .int (nI m)), (2, v)] [] M = some (some (.int (nI k)), M) := by
  refine zr_s0 rfl rfl rfl rfl ?_
  refine zr_if (t := 9) rfl rfl (fun h => absurd (by simpa [zcI] using h) (nI_pos (by omega))) (fun _ => ?_)
  refine zr_s0 rfl rfl rfl rfl ?_
  refine zr_s0 rfl rfl rfl rfl ?_
  refine zr_icmp (t := 16) rfl rfl (fun _ => ?_) (fun h => absurd (nI_lt hk hm) (by simpa [zcI] using h))
  refine zr_s0 rfl rfl rfl rfl ?_
  exact zr_reti rfl rfl
theorem str_check {X : zX} {call : zCall} {M : zM} {k m n : Nat} (hc : ∀ v : Value, v.category = 1 → call 515 [.int (nI k), .int (nI m), v] M = some (some (.int (nI k)), M)) : zrun X zmt call zm_505 (n + 6) 0 [(0, .int (nI k)), (1, .int (nI m))] [] M = some (none, M) := by
  refine zr_s0 rfl rfl rfl rfl ?_
  refine zr_s0 rfl rfl rfl rfl ?_
  refine zr_s3 rfl rfl rfl rfl rfl rfl ?_
  refine zr_callS rfl rfl rfl ⟨Or.inl rfl, rfl, rfl, rfl, rfl, Nat.le_of_ble_eq_true rfl⟩ (hc _ (by split <;> rfl)) ?_
  refine zr_s0 rfl rfl rfl rfl ?_
  exact zr_ret rfl rfl rfl
def zchar (b : Int32) : Int32 := ((b &&& 255).toUInt32 % 65536).toInt32
theorem zsb_char : ∀ i, i < 13 → (zsb i).length < 2 ^ 31 ∧ ∀ b ∈ zsb i, narrow .char (.int (zchar b)) = .int (zchar b) ∧ zchar b = b := by decide +kernel
theorem getD_mem {l : List Int32} {k : Nat} (hk : k < l.length) : l.getD k 0 ∈ l := by
  rw [List.getD_eq_getElem?_getD, List.getElem?_eq_getElem hk]
  exact List.getElem_mem hk
theorem zsb_at {i k : Nat} (hi : i < 13) (hk : k < (zsb i).length) : (zsb i).length < 2 ^ 31 ∧ narrow .char (.int ((zsb i).getD k 0)) = .int ((zsb i).getD k 0) ∧ zchar ((zsb i).getD k 0) = (zsb i).getD k 0 := by
  obtain ⟨c1, c2⟩ := zsb_char i hi
  obtain ⟨c3, c4⟩ := c2 _ (getD_mem hk)
  rw [c4] at c3
  exact ⟨c1, c3, c4⟩
theorem str_l1' {X : zX} {call : zCall} {M : zM} {q k n len : Nat} {b : Int32} (h1 : ∀ (n : Nat) (rest : List Value) (pc : Nat) (ls : zL) (res : Option (Option Value × zM)), zm_506.2.2.2.2.2.2.2 pc = some (.arraylength, 1) → zrun X zmt call zm_506 n (pc + 1) ls (.int (nI len) :: rest) M = res → zrun X zmt call zm_506 (n + 1) pc ls (.ref q :: rest) M = res) (h2 : ∀ (n : Nat) (rest : List Value) (pc : Nat) (ls : zL) (res : Option (Option Value × zM)), zm_506.2.2.2.2.2.2.2 pc = some (.baload, 1) → zrun X zmt call zm_506 n (pc + 1) ls (.int b :: rest) M = res → zrun X zmt call zm_506 (n + 1) pc ls (.int (nI k) :: .ref q :: rest) M = res) (hc : call 505 [.int (nI k), .int (nI len)] M = some (none, M)) (c3 : narrow .char (.int b) = .int b) (c4 : zchar b = b) : zrun X zmt call zm_506 (n + 11) 0 [(0, .ref q), (1, .int (nI k))] [] M = some (some (.int b), M) := by
  refine zr_s0 rfl rfl rfl rfl ?_
  refine zr_s0 rfl rfl rfl rfl ?_
  refine h1 _ _ _ _ _ rfl ?_
  refine zr_callS rfl rfl rfl ⟨Or.inl rfl, rfl, rfl, rfl, rfl, Nat.le_of_ble_eq_true rfl⟩ hc ?_
  refine zr_s0 rfl rfl rfl rfl ?_
  refine zr_s0 rfl rfl rfl rfl ?_
  refine h2 _ _ _ _ _ rfl ?_
  refine zr_s0 rfl rfl rfl rfl ?_
  refine zr_s0 rfl rfl rfl rfl ?_
  refine zr_s0 (pc' := 14) (ls' := [(0, .ref q), (1, .int (nI k))]) (st' := [.int (zchar b)]) rfl rfl rfl rfl ?_
  rw [c4]
  exact zr_retn rfl rfl c3
theorem str_l1 {X : zX} {call : zCall} {M : zM} {q k n : Nat} (hq : 1000000 ≤ q ∧ q < 1000013) (hM : M.1 ≤ 1000000) (hk : k < (zsb (q - 1000000)).length) (hc : call 505 [.int (nI k), .int (nI (zsb (q - 1000000)).length)] M = some (none, M)) : zrun X zmt call zm_506 (n + 11) 0 [(0, .ref (q + 20)), (1, .int (nI k))] [] M = some (some (.int ((zsb (q - 1000000)).getD k 0)), M) := by
  have hq' : @LE.le Nat _ 1000000 q ∧ @LT.lt Nat _ q 1000013 := hq
  have hi : q - 1000000 < 13 := by omega
  obtain ⟨c1, c3, c4⟩ := zsb_at hi hk
  exact str_l1' (fun n rest pc ls res htb h => zr_slen htb hq hM h) (fun n rest pc ls res htb h => zr_sbald htb hq hM hk (Nat.lt_trans hk c1) h) hc c3 c4
theorem str_charAt {X : zX} {call : zCall} {M : zM} {q k n : Nat} {b : Int32} (hq : 1000000 ≤ q ∧ q < 1000013) (hc1 : call 504 [.ref q] M = some (some (.int 1), M)) (hc2 : call 506 [.ref (q + 20), .int (nI k)] M = some (some (.int b), M)) (c3 : narrow .char (.int b) = .int b) : zrun X zmt call zm_502 (n + 8) 0 [(0, .ref q), (1, .int (nI k))] [] M = some (some (.int b), M) := by
  refine zr_s0 rfl rfl rfl rfl ?_
  refine zr_callT rfl rfl rfl rfl hq ⟨Or.inl rfl, rfl, rfl, rfl, rfl, rfl, Nat.le_of_ble_eq_true rfl⟩ hc1 ?_
  refine zr_if (t := 16) rfl rfl (fun h => absurd h (by decide)) (fun _ => ?_)
  refine zr_s0 rfl rfl rfl rfl ?_
  refine zr_s3 (pc' := 11) (ls' := [(0, .ref q), (1, .int (nI k))]) (st' := [.ref (q + 20)]) (M' := M) rfl rfl rfl rfl rfl (by
    show (if 1000000 ≤ q ∧ q < 1000013 then _ else none) = _
    rw [if_pos hq]
    rfl) ?_
  refine zr_s0 rfl rfl rfl rfl ?_
  refine zr_callS rfl rfl rfl ⟨Or.inl rfl, rfl, rfl, rfl, rfl, Nat.le_of_ble_eq_true rfl⟩ hc2 ?_
  exact zr_retn rfl rfl c3
theorem zsl3 {a b : Int32} {v : Value} (hv : v.category = 1) : (lg_sl [.int a, .int b, v]).length ≤ 3 := by
  have h : ¬ v.category = 2 := by omega
  have e : lg_sl [.int a, .int b, v] = [.val (.int a), .val (.int b)] ++ ((if v.category = 2 then [.val v, .second] else [.val v]) ++ []) := rfl
  rw [e, if_neg h]
  exact Nat.le_refl _
theorem zrun_fuel {X : zX} {mt : Nat → Option zMe} {call : zCall} {r : zMe} : ∀ (n pc : Nat) (ls : zL) (st : List Value) (M : zM) (res : Option Value × zM), zrun X mt call r n pc ls st M = some res → ∀ m, n ≤ m → zrun X mt call r m pc ls st M = some res := by
  intro n
  induction n with
  | zero => intro pc ls st M res h; cases h
  | succ n ih =>
    intro pc ls st M res h m hm
    obtain ⟨m', rfl⟩ : ∃ m', m = m' + 1 := ⟨m - 1, by omega⟩
    unfold zrun at h ⊢
    split at h
    · cases h
    · rename_i i len htb
      split at h
      · rename_i hk
        rw [if_pos hk]
        split at h
        · exact h
        · split at h
          · exact ih _ _ _ _ _ h _ (by omega)
          · cases h
      · cases h
theorem zev_ovS {th : Nat} {X : zX} {mt : Nat → Option zMe} {ov : zCall} {d n a : Nat} {av : List Value} {M : zM} {q : Option Value × zM} (ho : ov a av M = some q) (hd : th ≤ d + 1) : zev th X mt ov (d + 1) n a av M = some q := by
  rw [zev, ho]
  dsimp only
  rw [if_pos hd]
theorem zev_length {X : zX} {M : zM} {q d : Nat} (hq : 1000000 ≤ q ∧ q < 1000013) (hM : M.1 ≤ 1000000) : zev 0 X zmt zov0 (d + 2) 20 501 [.ref q] M = some (some (.int (nI (zsb (q - 1000000)).length)), M) :=
  zev_S rfl rfl (show 1 ≤ 1 by decide) (str_length (n := 13) hq hM (zev_S rfl rfl (show 1 ≤ 1 by decide) (str_coder (n := 14) hq)))
theorem zev_charAt {X : zX} {M : zM} {q k d : Nat} (hq : 1000000 ≤ q ∧ q < 1000013) (hM : M.1 ≤ 1000000) (hk : k < (zsb (q - 1000000)).length) : zev 0 X zmt zov0 (d + 5) 20 502 [.ref q, .int (nI k)] M = some (some (.int ((zsb (q - 1000000)).getD k 0)), M) := by
  have hq' : @LE.le Nat _ 1000000 q ∧ @LT.lt Nat _ q 1000013 := hq
  have hi : q - 1000000 < 13 := by omega
  obtain ⟨c1, c3, c4⟩ := zsb_at hi hk
  have p1 : zev 0 X zmt zov0 (d + 4) 20 504 [.ref q] M = some (some (.int 1), M) := zev_S rfl rfl (show 1 ≤ 1 by decide) (str_latin (n := 12) hq)
  have p5 : ∀ v : Value, v.category = 1 → zev 0 X zmt zov0 (d + 2) 20 515 [.int (nI k), .int (nI (zsb (q - 1000000)).length), v] M = some (some (.int (nI k)), M) := fun v hv => zev_S rfl rfl (zsl3 hv) (str_pre (n := 13) hk c1 hv)
  have p4 : zev 0 X zmt zov0 (d + 3) 20 505 [.int (nI k), .int (nI (zsb (q - 1000000)).length)] M = some (none, M) := zev_S rfl rfl (show 2 ≤ 2 by decide) (str_check (n := 14) p5)
  have p3 : zev 0 X zmt zov0 (d + 4) 20 506 [.ref (q + 20), .int (nI k)] M = some (some (.int ((zsb (q - 1000000)).getD k 0)), M) := zev_S rfl rfl (show 2 ≤ 2 by decide) (str_l1 (n := 9) hq hM hk p4)
  exact zev_S rfl rfl (show 2 ≤ 2 by decide) (str_charAt (n := 12) hq p1 p3 c3)
