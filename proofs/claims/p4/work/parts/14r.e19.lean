/-! THE ENGINE, 19: runs; calls -/
def zRun (th : Nat) (X : zX) (mt : Nat → Option zMe) (ov : zCall) (d : Nat) (r : zMe) (pc : Nat) (ls : zL) (st : List Value) (M : zM) (res : Option Value × zM) : Prop := ∃ n, ∀ m, n ≤ m → ∀ k, n ≤ k → zrun X mt (zev th X mt ov d k) r m pc ls st M = some res
def zCll (th : Nat) (X : zX) (mt : Nat → Option zMe) (ov : zCall) (d : Nat) (a : Nat) (args : List Value) (M : zM) (res : Option Value × zM) : Prop := ∃ n, ∀ k, n ≤ k → zev th X mt ov (d + 1) k a args M = some res
section ZRUN
variable {th : Nat} {X : zX} {mt : Nat → Option zMe} {ov : zCall} {d : Nat} {r : zMe} {pc pc' len : Nat} {ls ls' : zL} {st st' : List Value} {M M' : zM} {res : Option Value × zM} {i : Instr}
theorem zRun_cll {a : Nat} {args : List Value} (h : zRun th X mt ov d r 0 (lv_args 0 args) [] M res) (hr : mt a = some r) (hov : ov a args M = none) (hl : (lg_sl args).length ≤ r.2.2.1) : zCll th X mt ov d a args M res := by
  obtain ⟨n, hn⟩ := h
  refine ⟨n, fun k hk => ?_⟩
  rw [zev, hov]
  dsimp only
  rw [hr]
  dsimp only
  rw [if_pos hl]
  exact hn k hk k hk
theorem zCll_ov {a : Nat} {args : List Value} (hov : ov a args M = some res) (hd : th ≤ d + 1) : zCll th X mt ov d a args M res := by
  refine ⟨0, fun k _ => ?_⟩
  rw [zev, hov]
  dsimp only
  rw [if_pos hd]
theorem zRun_step (htb : r.2.2.2.2.2.2.2 pc = some (i, len)) (hk : zlok i len = true) (hr : zret r.2.2.2.1 i st = none) (hs : ∀ (meth : Nat → Option zMe) (call : Nat → List Value → zM → Option (Option Value × zM)), zstep X meth call r pc ls st M i len = some (pc', ls', st', M')) (h : zRun th X mt ov d r pc' ls' st' M' res) : zRun th X mt ov d r pc ls st M res := by
  obtain ⟨n, hn⟩ := h
  refine ⟨n + 1, fun m hm k hk' => ?_⟩
  obtain ⟨m', rfl⟩ : ∃ m', m = m' + 1 := ⟨m - 1, by omega⟩
  rw [zrun, htb]
  dsimp only
  rw [if_pos hk, hr]
  dsimp only
  rw [hs]
  exact hn m' (by omega) k (by omega)
theorem zRun_ret {v : Option Value} (htb : r.2.2.2.2.2.2.2 pc = some (i, len)) (hk : zlok i len = true) (hr : zret r.2.2.2.1 i st = some v) : zRun th X mt ov d r pc ls st M (v, M) := by
  refine ⟨1, fun m hm k _ => ?_⟩
  obtain ⟨m', rfl⟩ : ∃ m', m = m' + 1 := ⟨m - 1, by omega⟩
  rw [zrun, htb]
  dsimp only
  rw [if_pos hk, hr]
/-- a call by the machine's own rows -/
theorem zRun_call {a : Nat} {args rest : List Value} {v : Option Value} (htb : r.2.2.2.2.2.2.2 pc = some (i, len)) (hk : zlok i len = true) (hr : zret r.2.2.2.1 i st = none) (h0 : zs0 pc ls st r.2.2.1 i len = none) (h1 : zs1 X r.2.2.2.2.2.1 (r.2.2.2.2.2.2.1 == 2) pc ls st M i = none) (h3 : zs3 X r.2.2.2.2.2.1 pc ls st M i = none) (h2 : ∀ call : Nat → List Value → zM → Option (Option Value × zM), call a args M = some (v, M') → zs2 mt call r.2.2.2.2.2.1 pc ls st M i = some (pc + 3, ls, v.toList ++ rest, M')) (hc : zCll th X mt ov d a args M (v, M')) (h : zRun th X mt ov (d + 1) r (pc + 3) ls (v.toList ++ rest) M' res) : zRun th X mt ov (d + 1) r pc ls st M res := by
  obtain ⟨n, hn⟩ := h
  obtain ⟨n2, hn2⟩ := hc
  refine ⟨n + n2 + 1, fun m hm k hk' => ?_⟩
  obtain ⟨m', rfl⟩ : ∃ m', m = m' + 1 := ⟨m - 1, by omega⟩
  rw [zrun, htb]
  dsimp only
  rw [if_pos hk, hr]
  dsimp only
  unfold zstep
  rw [h0]
  dsimp only
  rw [h1]
  dsimp only
  rw [h3]
  dsimp only
  rw [h2 _ (hn2 k (by omega))]
  exact hn m' (by omega) k (by omega)
end ZRUN
/-- what is called: method, what it is given, what stays -/
def scx (mt : Nat → Option zMe) (own : Nat) (i : Instr) (T : List sV) : Option (Nat × zMe × List sV × List sV) := match i with
  | .invokevirtual x => (match zlk own x with
    | some (t, a, n, _) => (match mt a with
      | some r => (match T.drop n with
        | (3, c, o) :: rest => cond ((Nat.beq t 1 || Nat.beq t 2) && (Nat.beq r.2.2.2.2.1 n && (Nat.beq r.2.2.2.2.2.2.1 1 && (Nat.beq r.2.2.2.2.2.1 c && (Nat.blt c 13 && (Nat.beq (T.take n).length n && Nat.ble (scat rest) 8)))))) (some (a, r, (3, c, o) :: (T.take n).reverse, rest)) none
        | _ => none)
      | none => none)
    | none => none)
  | .invokestatic x => (match zlk own x with
    | some (t, a, n, _) => (match mt a with
      | some r => cond ((Nat.beq t 1 || Nat.beq t 2) && (Nat.beq r.2.2.2.2.1 n && (Nat.beq r.2.2.2.2.2.2.1 0 && (Nat.beq (T.take n).length n && Nat.ble (scat (T.drop n)) 8)))) (some (a, r, (T.take n).reverse, T.drop n)) none
      | none => none)
    | none => none)
  | _ => none
/-- calls of String's own methods on text constants: what is answered -/
def sxs (own : Nat) (i : Instr) (A : sA) : Option (Nat × sA) := match A with
  | (K, D, F, Q, L, T) => match i with
    | .invokevirtual x => (match zlk own x with
      | some (t, a, n, _) => cond (Nat.beq t 1 || Nat.beq t 2) (cond (Nat.beq a 501 && Nat.beq n 0) (match T with
        | (6, q, _) :: rest => cond (Nat.ble (scat rest) 8) (some (501, K, D, F, Q, L, (0, 0, sC (Int32.ofNat (zsb q).length).toInt) :: rest)) none
        | _ => none) (cond (Nat.beq a 502 && Nat.beq n 1) (match T with
        | (0, _, j) :: (6, q, _) :: rest => cond (Nat.ble (scat rest) 8) (match scon K.1 j with
          | some c => cond (spos c && Nat.blt c.toNat (zsb q).length) (some (502, K, D, F, Q, L, (0, 0, sC ((zsb q).getD c.toNat 0).toInt) :: rest)) none
          | none => cond (sge0 K j && sge0 K (ssub (sC ((zsb q).length - 1 : Int)) j)) (some (502, sfresh K sI32.1 sI32.2, D, F, Q, L, (0, 0, sS K.1.length) :: rest)) none) none
        | _ => none) none)) none
      | none => none)
    | _ => none
/-- what is known of the methods' table -/
def zmtG (mt : Nat → Option zMe) : Prop := ∀ a r, mt a = some r → zmn a = r.1 ∧ r.2.2.2.2.2.1 < 21 ∧ zown r.2.2.2.2.2.1 = r.1.cls
theorem zcls_own {c : Nat} {q : vw_C} (h : zcls[c]? = some q) : q.1 = zown c ∧ c < 13 := by
  have hl : c < 13 := by
    rcases Nat.lt_or_ge c 13 with q | q
    · exact q
    · rw [List.getElem?_eq_none (by exact q)] at h
      cases h
  refine ⟨?_, hl⟩
  have all : ∀ c, c < 13 → zcls[c]?.map (fun q => q.1) = some (zown c) := by decide +kernel
  have := all c hl
  rw [h] at this
  exact Option.some.inj this
theorem zcls_some {c : Nat} (h : c < 13) : ∃ q, zcls[c]? = some q := ⟨zcls[c], List.getElem?_eq_getElem (by exact h)⟩
section SCX
variable {Qs : Nat → List Int → zM → Prop} {ρ : Nat → Int} {mt : Nat → Option zMe} {K : sK} {D : List sD} {F : List sF} {Q : List sQ} {L : List (Nat × sV)} {T : List sV} {ls : zL} {st : List Value} {M : zM} {X : zX}
theorem sStk_drop : ∀ {st : List Value} {T : List sV} (n : Nat), sStk ρ st T → sStk ρ (st.drop n) (T.drop n)
  | _, _, 0, h => h
  | [], [], _ + 1, _ => trivial
  | [], _ :: _, _ + 1, h => h.elim
  | _ :: _, [], _ + 1, h => h.elim
  | _ :: st, _ :: T, n + 1, h => sStk_drop n h.2
theorem sStk_take : ∀ {st : List Value} {T : List sV} (n : Nat), sStk ρ st T → sStk ρ (st.take n) (T.take n)
  | _, _, 0, _ => trivial
  | [], [], _ + 1, _ => trivial
  | [], _ :: _, _ + 1, h => h.elim
  | _ :: _, [], _ + 1, h => h.elim
  | _ :: st, _ :: T, n + 1, h => ⟨h.1, sStk_take n h.2⟩
theorem sStk_app : ∀ {st st2 : List Value} {T T2 : List sV}, sStk ρ st T → sStk ρ st2 T2 → sStk ρ (st ++ st2) (T ++ T2)
  | [], _, [], _, _, h2 => h2
  | [], _, _ :: _, _, h, _ => h.elim
  | _ :: _, _, [], _, h, _ => h.elim
  | _ :: _, _, _ :: _, _, h, h2 => ⟨h.1, sStk_app h.2 h2⟩
theorem sStk_rev : ∀ {st : List Value} {T : List sV}, sStk ρ st T → sStk ρ st.reverse T.reverse
  | [], [], _ => trivial
  | [], _ :: _, h => h.elim
  | _ :: _, [], h => h.elim
  | v :: st, a :: T, h => by
    rw [List.reverse_cons, List.reverse_cons]
    exact sStk_app (sStk_rev h.2) ⟨h.1, trivial⟩
/-- the call, as the machine's rows have it -/
theorem scx_ok (hG : zmtG mt) (h : sStk ρ st T) (hMm : sMem M) {own pc len nL : Nat} {ini : Bool} {i : Instr} (hk : zlok i len = true) {a : Nat} {r : zMe} {vals rest : List sV} (hs : scx mt own i T = some (a, r, vals, rest)) : mt a = some r ∧ (∀ x ∈ vals, x ∈ T) ∧ (∀ x ∈ rest, x ∈ T) ∧ ∃ args rs, sStk ρ args vals ∧ sStk ρ rs rest ∧ (∀ ret, zret ret i st = none) ∧ zs0 pc ls st nL i len = none ∧ zs1 X own ini pc ls st M i = none ∧ zs3 X own pc ls st M i = none ∧ ∀ (call : Nat → List Value → zM → Option (Option Value × zM)) (v : Option Value) (M' : zM), call a args M = some (v, M') → zs2 mt call own pc ls st M i = some (pc + 3, ls, v.toList ++ rs, M') := by
  unfold scx at hs
  split at hs
  · rename_i x
    split at hs
    · rename_i t a' n p hlk
      split at hs
      · rename_i r' hr
        split at hs
        · rename_i c o rest' hT
          cases hc : ((Nat.beq t 1 || Nat.beq t 2) && (Nat.beq r'.2.2.2.2.1 n && (Nat.beq r'.2.2.2.2.2.2.1 1 && (Nat.beq r'.2.2.2.2.2.1 c && (Nat.blt c 13 && (Nat.beq (T.take n).length n && Nat.ble (scat rest') 8)))))) with
          | false => rw [hc] at hs; cases hs
          | true =>
            rw [hc] at hs
            cases hs
            simp only [Bool.and_eq_true, Bool.or_eq_true] at hc
            obtain ⟨c1, c2, c3, c4, c5, c6, c7⟩ := hc
            have c1 : t = 1 ∨ t = 2 := c1.imp Nat.eq_of_beq_eq_true Nat.eq_of_beq_eq_true
            have c2 := Nat.eq_of_beq_eq_true c2
            have c3 := Nat.eq_of_beq_eq_true c3
            have c4 := Nat.eq_of_beq_eq_true c4
            have c5 : c < 13 := sbltt c5
            have c6 := Nat.eq_of_beq_eq_true c6
            have c7 := Nat.le_of_ble_eq_true c7
            have hd := sStk_drop n h
            rw [hT] at hd
            have ht := sStk_rev (sStk_take n h)
            cases hst : st.drop n with
            | nil => rw [hst] at hd; exact hd.elim
            | cons v0 rs =>
              rw [hst] at hd
              obtain ⟨⟨k, rfl, hk0, hsh⟩, hd2⟩ := hd
              have hsh : sSh k = some (0, c, 0) := hsh
              have hsub : ∀ x ∈ T.drop n, x ∈ T := fun x hx => List.mem_of_mem_drop hx
              obtain ⟨fs, g1, -, -, -⟩ := sMem_ob hMm hsh
              obtain ⟨q, hq⟩ := zcls_some c5
              obtain ⟨m1, m2, m3⟩ := hG a r hr
              have hcls : q.1 = r.1.cls := by rw [(zcls_own hq).1, ← c4, m3]
              have hlen : (st.take n).length = n := by
                rw [sStk_len (sStk_take n h)]
                exact c6
              have hcat := scat_ok hd2
              have hbig : ¬ (1000000 ≤ k ∧ k < 1000013) := by
                have := sSh_lt hsh
                omega
              have hl : len = 3 := by simpa [zlok] using hk
              subst hl
              refine ⟨hr, fun x hx => ?_, fun x hx => hsub x (by rw [hT]; exact List.mem_cons_of_mem _ hx), .ref k :: (st.take n).reverse, rs, ⟨⟨k, rfl, hk0, hsh⟩, ht⟩, hd2, fun _ => rfl, rfl, ?_, rfl, fun call v M' hcv => ?_⟩
              · rcases List.mem_cons.mp hx with rfl | hx
                · exact hsub _ (by rw [hT]; exact List.mem_cons_self)
                · exact List.mem_of_mem_take (List.mem_reverse.mp hx)
              · rfl
              · simp only [zs2, hlk, hr, hst]
                rw [if_neg hbig]
                simp only [g1, hq]
                rw [if_pos ⟨c1, m1, c2, c3, hcls, hlen, Nat.le_trans hcat c7⟩, hcv]
        · cases hs
      · cases hs
    · cases hs
  · rename_i x
    split at hs
    · rename_i t a' n p hlk
      split at hs
      · rename_i r' hr
        cases hc : ((Nat.beq t 1 || Nat.beq t 2) && (Nat.beq r'.2.2.2.2.1 n && (Nat.beq r'.2.2.2.2.2.2.1 0 && (Nat.beq (T.take n).length n && Nat.ble (scat (T.drop n)) 8)))) with
        | false => rw [hc] at hs; cases hs
        | true =>
          rw [hc] at hs
          cases hs
          simp only [Bool.and_eq_true, Bool.or_eq_true] at hc
          obtain ⟨c1, c2, c3, c6, c7⟩ := hc
          have c1 : t = 1 ∨ t = 2 := c1.imp Nat.eq_of_beq_eq_true Nat.eq_of_beq_eq_true
          have c2 := Nat.eq_of_beq_eq_true c2
          have c3 := Nat.eq_of_beq_eq_true c3
          have c6 := Nat.eq_of_beq_eq_true c6
          have c7 := Nat.le_of_ble_eq_true c7
          obtain ⟨m1, m2, m3⟩ := hG a r hr
          have hlen : (st.take n).length = n := by
            rw [sStk_len (sStk_take n h)]
            exact c6
          have hcat := scat_ok (sStk_drop n h)
          have hl : len = 3 := by simpa [zlok] using hk
          subst hl
          have hz : zs1 X own ini pc ls st M (.invokestatic x) = none := by
            rcases c1 with rfl | rfl <;> simp only [zs1, hlk]
          refine ⟨hr, fun x hx => List.mem_of_mem_take (List.mem_reverse.mp hx), fun x hx => List.mem_of_mem_drop hx, (st.take n).reverse, st.drop n, sStk_rev (sStk_take n h), sStk_drop n h, fun _ => rfl, rfl, hz, rfl, fun call v M' hcv => ?_⟩
          simp only [zs2, hlk, hr]
          rw [if_pos ⟨c1, m1, c2, c3, hlen, Nat.le_trans hcat c7⟩, hcv]
      · cases hs
    · cases hs
  · cases hs
end SCX
