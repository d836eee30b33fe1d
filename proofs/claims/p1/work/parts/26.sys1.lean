/-! the reference makes a system -/
def zmF (cl rs tp : Int32) : List Value := [.ref 475, .ref 476, .int tp, .int 0, .int 0, .int cl, .int 0, .ref 477, .ref 478, .ref 479, .int rs, .int 0, .long 0, .long 0, .int 0, .ref 480, .ref 481, .int 0, .int 0, .int 0, .int 0, .int 0, .int 0, .int 0, .int 0, .ref 482, .ref 483, .int 0, .int 0, .int 0, .int 0, .int 0, .ref 484, .ref 485, .int 0]
theorem zmF_0 : zf_474 = zmF 0 0 0 := rfl
def zmE (M : zM) (f g : Nat → Int32) (cl rs : Int32) (k : Nat) : zE := if k = 475 then .inl (0, 238220, .inl f) else if k = 479 then .inl (0, 4100, .inl g) else if k = 474 then .inr (12, zmF cl rs 0) else M.2.2 k
def zmM (M : zM) (f g : Nat → Int32) (cl rs : Int32) : zM := (M.1, M.2.1, zmE M f g cl rs)
section ZMM
variable {M : zM} {f g : Nat → Int32} {cl rs : Int32}
theorem zm_m (hM : 486 ≤ M.1) : zob (zmM M f g cl rs) 475 = some (.inl (0, 238220, .inl f)) := by
  unfold zob zmM zmE
  dsimp only
  rw [if_pos (by omega), if_pos rfl]
theorem zm_r (hM : 486 ≤ M.1) : zob (zmM M f g cl rs) 479 = some (.inl (0, 4100, .inl g)) := by
  unfold zob zmM zmE
  dsimp only
  rw [if_pos (by omega), if_neg (by decide), if_pos rfl]
theorem zm_o (hM : 486 ≤ M.1) : zob (zmM M f g cl rs) 474 = some (.inr (12, zmF cl rs 0)) := by
  unfold zob zmM zmE
  dsimp only
  rw [if_pos (by omega), if_neg (by decide), if_neg (by decide), if_pos rfl]
theorem zms_ext {a : Nat} {e : zE} {f' g' : Nat → Int32} {cl' rs' : Int32} (h : ∀ k, (if k = a then e else zmE M f g cl rs k) = zmE M f' g' cl' rs' k) : zset (zmM M f g cl rs) a e = zmM M f' g' cl' rs' := by
  unfold zset zmM
  dsimp only
  refine congrArg (fun z => (M.1, M.2.1, z)) (funext fun k => ?_)
  unfold va_up
  exact h k
theorem zms_m {f' : Nat → Int32} : zset (zmM M f g cl rs) 475 (.inl (0, 238220, .inl f')) = zmM M f' g cl rs := zms_ext fun k => by
  unfold zmE
  by_cases q : k = 475
  · rw [if_pos q, if_pos q]
  · rw [if_neg q, if_neg q, if_neg q]
theorem zms_r {g' : Nat → Int32} : zset (zmM M f g cl rs) 479 (.inl (0, 4100, .inl g')) = zmM M f g' cl rs := zms_ext fun k => by
  unfold zmE
  by_cases q : k = 479
  · rw [if_pos q, if_pos q, if_neg (by omega)]
  · rw [if_neg q, if_neg q, if_neg q]
theorem zms_o {cl' rs' : Int32} : zset (zmM M f g cl rs) 474 (.inr (12, zmF cl' rs' 0)) = zmM M f g cl' rs' := zms_ext fun k => by
  unfold zmE
  by_cases q : k = 474
  · rw [if_pos q, if_pos q, if_neg (by omega), if_neg (by omega)]
  · rw [if_neg q, if_neg q, if_neg q]
theorem zmM_self (h1 : zob M 475 = some (.inl (0, 238220, .inl f))) (h2 : zob M 479 = some (.inl (0, 4100, .inl g))) (h3 : zob M 474 = some (.inr (12, zmF cl rs 0))) : zmM M f g cl rs = M := by
  have key : ∀ {a : Nat} {e : zE}, zob M a = some e → M.2.2 a = e := by
    intro a e h
    have h1 := zob_lt h
    unfold zob at h
    rw [if_pos h1] at h
    exact Option.some.inj h
  unfold zmM
  have : zmE M f g cl rs = M.2.2 := by
    funext k
    unfold zmE
    split
    · rename_i q; rw [q, key h1]
    · split
      · rename_i q; rw [q, key h2]
      · split
        · rename_i q; rw [q, key h3]
        · rfl
  rw [this]
end ZMM
section ZMS
variable {X : zX} {mt : Nat → Option zMe} {call : zCall} {r : zMe} {n pc : Nat} {ls : zL} {rest : List Value} {res : Option (Option Value × zM)} {M : zM} {f g : Nat → Int32} {cl rs : Int32}
theorem zr_iastM {j v : Int32} {k : Nat} (htb : r.2.2.2.2.2.2.2 pc = some (.iastore, 1)) (hM : 486 ≤ M.1) (hj : j = nI k) (hk : k < 238220) (h : zrun X mt call r n (pc + 1) ls rest (zmM M (upd f k v) g cl rs) = res) : zrun X mt call r (n + 1) pc ls (.int v :: .int j :: .ref 475 :: rest) (zmM M f g cl rs) = res := by
  subst hj
  refine zr_iast htb (zm_m hM) (vp_in_nI hk (by omega)) ?_
  rw [nI_clamp (by omega), zms_m]
  exact h
theorem zr_iastR {j v : Int32} {k : Nat} (htb : r.2.2.2.2.2.2.2 pc = some (.iastore, 1)) (hM : 486 ≤ M.1) (hj : j = nI k) (hk : k < 4100) (h : zrun X mt call r n (pc + 1) ls rest (zmM M f (upd g k v) cl rs) = res) : zrun X mt call r (n + 1) pc ls (.int v :: .int j :: .ref 479 :: rest) (zmM M f g cl rs) = res := by
  subst hj
  refine zr_iast htb (zm_r hM) (vp_in_nI hk (by omega)) ?_
  rw [nI_clamp (by omega), zms_r]
  exact h
theorem zr_ialdM {j v : Int32} {k : Nat} (htb : r.2.2.2.2.2.2.2 pc = some (.iaload, 1)) (hM : 486 ≤ M.1) (hj : j = nI k) (hk : k < 238220) (hv : f k = v) (h : zrun X mt call r n (pc + 1) ls (.int v :: rest) (zmM M f g cl rs) = res) : zrun X mt call r (n + 1) pc ls (.int j :: .ref 475 :: rest) (zmM M f g cl rs) = res := by
  subst hj
  refine zr_iald htb (by decide) (zm_m hM) (vp_in_nI hk (by omega)) ?_
  rw [nI_clamp (by omega), hv]
  exact h
theorem zr_ialdR {j v : Int32} {k : Nat} (htb : r.2.2.2.2.2.2.2 pc = some (.iaload, 1)) (hM : 486 ≤ M.1) (hj : j = nI k) (hk : k < 4100) (hv : g k = v) (h : zrun X mt call r n (pc + 1) ls (.int v :: rest) (zmM M f g cl rs) = res) : zrun X mt call r (n + 1) pc ls (.int j :: .ref 479 :: rest) (zmM M f g cl rs) = res := by
  subst hj
  refine zr_iald htb (by decide) (zm_r hM) (vp_in_nI hk (by omega)) ?_
  rw [nI_clamp (by omega), hv]
  exact h
theorem zr_putM {x k q : Nat} {v : Value} {cl' rs' : Int32} (htb : r.2.2.2.2.2.2.2 pc = some (.putfield x, 3)) (hlk : zlk r.2.2.2.2.2.1 x = some (0, 12, k, q)) (hM : 486 ≤ M.1) {w : vw_C} (hw : zcls[12]? = some w) (hc : k < (zmF cl rs 0).length ∧ k < w.2.2 ∧ zfit (zfty 12 k) v = true ∧ ((w.2.1 k).2.2.2 = false ∨ ((r.2.2.2.2.2.2.1 == 2) = true ∧ (w.2.1 k).1 = zown r.2.2.2.2.2.1))) (he : (zmF cl rs 0).set k v = zmF cl' rs' 0) (h : zrun X mt call r n (pc + 3) ls rest (zmM M f g cl' rs') = res) : zrun X mt call r (n + 1) pc ls (v :: .ref 474 :: rest) (zmM M f g cl rs) = res := by
  refine zr_put htb hlk (zm_o hM) hw hc ?_
  rw [he, zms_o]
  exact h
end ZMS
def zq (o : Option (Option Value × zM)) : Option (Option Value × Nat × Nat) := match o with
  | some (v, M) => some (v, M.1, M.2.1)
  | none => none
theorem zq_of {a b : Option (Option Value × zM)} {r} (e : b = a) (h : zq a = r) : zq b = r := by rw [e]; exact h
theorem zq_icmp {X : zX} {mt : Nat → Option zMe} {call : zCall} {r : zMe} {n pc t : Nat} {ls : zL} {rest : List Value} {M : zM} {res} {c : ClassFile.Cond} {off : Int} {x y : Int32} (htb : r.2.2.2.2.2.2.2 pc = some (.if_icmp c off, 3)) (ht : zjmp pc off = some t) (h1 : zcI c x y = true → zq (zrun X mt call r n t ls rest M) = res) (h2 : zcI c x y = false → zq (zrun X mt call r n (pc + 3) ls rest M) = res) : zq (zrun X mt call r (n + 1) pc ls (.int y :: .int x :: rest) M) = res := by
  cases hq : zcI c x y with
  | true => exact zq_of (zr_icmp htb ht (fun _ => rfl) (fun h => Bool.noConfusion (hq.symm.trans h))) (h1 hq)
  | false => exact zq_of (zr_icmp htb ht (fun h => Bool.noConfusion (hq.symm.trans h)) (fun _ => rfl)) (h2 hq)
theorem zq_if {X : zX} {mt : Nat → Option zMe} {call : zCall} {r : zMe} {n pc t : Nat} {ls : zL} {rest : List Value} {M : zM} {res} {c : ClassFile.Cond} {off : Int} {x : Int32} (htb : r.2.2.2.2.2.2.2 pc = some (.ifCond c off, 3)) (ht : zjmp pc off = some t) (h1 : zcI c x 0 = true → zq (zrun X mt call r n t ls rest M) = res) (h2 : zcI c x 0 = false → zq (zrun X mt call r n (pc + 3) ls rest M) = res) : zq (zrun X mt call r (n + 1) pc ls (.int x :: rest) M) = res := by
  cases hq : zcI c x 0 with
  | true => exact zq_of (zr_if htb ht (fun _ => rfl) (fun h => Bool.noConfusion (hq.symm.trans h))) (h1 hq)
  | false => exact zq_of (zr_if htb ht (fun h => Bool.noConfusion (hq.symm.trans h)) (fun _ => rfl)) (h2 hq)
theorem zm_wordAt {X : zX} {call : zCall} {M : zM} {f g : Nat → Int32} {cl rs : Int32} {n t : Nat} (hM : 486 ≤ M.1) : zrun X zmt call zm_324 (n + 9) 0 [(0, .ref 474), (1, .int (nI t))] [] (zmM M f g cl rs) = some (some (.int (nI (8292 + 40 * t))), zmM M f g cl rs) := by
  refine zr_s0 rfl rfl rfl rfl ?_
  refine zr_get rfl rfl (zm_o hM) rfl ?_
  refine zr_s0 rfl rfl rfl rfl ?_
  refine zr_s0 rfl rfl rfl rfl ?_
  refine zr_s0 rfl rfl rfl rfl ?_
  refine zr_s0 rfl rfl rfl rfl ?_
  refine zr_s0 rfl rfl rfl rfl ?_
  refine zr_s0 rfl rfl rfl rfl ?_
  have e : (0 : Int32) + (Int16.ofInt 8292).toInt32 + (Int8.ofInt 40).toInt32 * nI t = nI (8292 + 40 * t) := by
    rw [show (0 : Int32) + (Int16.ofInt 8292).toInt32 = nI 8292 by decide, show (Int8.ofInt 40).toInt32 = nI 40 by decide, nI_mul, nI_add]
  rw [e]
  exact zr_reti rfl rfl
