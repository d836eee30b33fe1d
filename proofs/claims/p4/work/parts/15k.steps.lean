/-! STEPS: the evaluator by hand, an instruction a row -/
section ZR
variable {X : zX} {mt : Nat → Option zMe} {call : zCall} {r : zMe} {n pc len pc' t : Nat} {ls ls' : zL} {st st' rest : List Value} {M M' : zM} {i : Instr} {res : Option (Option Value × zM)}
theorem zr_step (htb : r.2.2.2.2.2.2.2 pc = some (i, len)) (hk : zlok i len = true) (hr : zret r.2.2.2.1 i st = none) (hs : zstep X mt call r pc ls st M i len = some (pc', ls', st', M')) (h : zrun X mt call r n pc' ls' st' M' = res) : zrun X mt call r (n + 1) pc ls st M = res := by
  rw [zrun, htb]
  dsimp only
  rw [if_pos hk, hr]
  dsimp only
  rw [hs]
  exact h
theorem zr_ret {v : Option Value} (htb : r.2.2.2.2.2.2.2 pc = some (i, len)) (hk : zlok i len = true) (hr : zret r.2.2.2.1 i st = some v) : zrun X mt call r (n + 1) pc ls st M = some (v, M) := by
  rw [zrun, htb]
  dsimp only
  rw [if_pos hk, hr]
theorem zr_s0 (htb : r.2.2.2.2.2.2.2 pc = some (i, len)) (hk : zlok i len = true) (hr : zret r.2.2.2.1 i st = none) (hs : zs0 pc ls st r.2.2.1 i len = some (pc', ls', st')) (h : zrun X mt call r n pc' ls' st' M = res) : zrun X mt call r (n + 1) pc ls st M = res := zr_step htb hk hr (by unfold zstep; rw [hs]) h
theorem zr_icmp {c : ClassFile.Cond} {off : Int} {x y : Int32} (htb : r.2.2.2.2.2.2.2 pc = some (.if_icmp c off, 3)) (ht : zjmp pc off = some t) (h1 : zcI c x y = true → zrun X mt call r n t ls rest M = res) (h2 : zcI c x y = false → zrun X mt call r n (pc + 3) ls rest M = res) : zrun X mt call r (n + 1) pc ls (.int y :: .int x :: rest) M = res := by
  refine zr_s0 (pc' := if zcI c x y then t else pc + 3) (ls' := ls) (st' := rest) htb rfl rfl (by simp only [zs0]; rw [ht]) ?_
  cases hq : zcI c x y with
  | true => exact h1 hq
  | false => exact h2 hq
theorem zr_if {c : ClassFile.Cond} {off : Int} {x : Int32} (htb : r.2.2.2.2.2.2.2 pc = some (.ifCond c off, 3)) (ht : zjmp pc off = some t) (h1 : zcI c x 0 = true → zrun X mt call r n t ls rest M = res) (h2 : zcI c x 0 = false → zrun X mt call r n (pc + 3) ls rest M = res) : zrun X mt call r (n + 1) pc ls (.int x :: rest) M = res := by
  refine zr_s0 (pc' := if zcI c x 0 then t else pc + 3) (ls' := ls) (st' := rest) htb rfl rfl (by simp only [zs0]; rw [ht]) ?_
  cases hq : zcI c x 0 with
  | true => exact h1 hq
  | false => exact h2 hq
theorem zr_s1 (htb : r.2.2.2.2.2.2.2 pc = some (i, len)) (hk : zlok i len = true) (hr : zret r.2.2.2.1 i st = none) (h0 : zs0 pc ls st r.2.2.1 i len = none) (hs : zs1 X r.2.2.2.2.2.1 (r.2.2.2.2.2.2.1 == 2) pc ls st M i = some (pc', ls', st', M')) (h : zrun X mt call r n pc' ls' st' M' = res) : zrun X mt call r (n + 1) pc ls st M = res := zr_step htb hk hr (by unfold zstep; rw [h0]; dsimp only; rw [hs]) h
theorem zr_get {x ci k q a : Nat} {fs : List Value} {v : Value} (htb : r.2.2.2.2.2.2.2 pc = some (.getfield x, 3)) (hlk : zlk r.2.2.2.2.2.1 x = some (0, ci, k, q)) (hob : zob M a = some (.inr (ci, fs))) (hv : fs[k]? = some v) (h : zrun X mt call r n (pc + 3) ls (v :: rest) M = res) : zrun X mt call r (n + 1) pc ls (.ref a :: rest) M = res := by
  refine zr_s1 htb rfl rfl rfl ?_ h
  simp only [zs1, hlk, hob, if_true, hv]
theorem zr_put {x ci k q a : Nat} {fs : List Value} {v : Value} {w : vw_C} (htb : r.2.2.2.2.2.2.2 pc = some (.putfield x, 3)) (hlk : zlk r.2.2.2.2.2.1 x = some (0, ci, k, q)) (hob : zob M a = some (.inr (ci, fs))) (hw : zcls[ci]? = some w) (hc : k < fs.length ∧ k < w.2.2 ∧ zfit (zfty ci k) v = true ∧ ((w.2.1 k).2.2.2 = false ∨ ((r.2.2.2.2.2.2.1 == 2) = true ∧ (w.2.1 k).1 = zown r.2.2.2.2.2.1))) (h : zrun X mt call r n (pc + 3) ls rest (zset M a (.inr (ci, fs.set k v))) = res) : zrun X mt call r (n + 1) pc ls (v :: .ref a :: rest) M = res := by
  refine zr_s1 htb rfl rfl rfl ?_ h
  simp only [zs1, hlk, hob, hw]
  rw [if_pos ⟨trivial, hc⟩]
theorem zr_iald {a m : Nat} {f : Nat → Int32} {j : Int32} (htb : r.2.2.2.2.2.2.2 pc = some (.iaload, 1)) (ha : a < 1000000) (hob : zob M a = some (.inl (0, m, .inl f))) (hin : vp_in j m) (h : zrun X mt call r n (pc + 1) ls (.int (f j.toNatClampNeg) :: rest) M = res) : zrun X mt call r (n + 1) pc ls (.int j :: .ref a :: rest) M = res := by
  refine zr_s1 htb rfl rfl rfl ?_ h
  simp only [zs1, hob]
  rw [if_neg (Nat.ne_of_lt (Nat.lt_trans ha (by decide))), if_neg hin]
theorem zr_bald {a m : Nat} {f : Nat → Int32} {j : Int32} (htb : r.2.2.2.2.2.2.2 pc = some (.baload, 1)) (ha : a < 1000000) (hob : zob M a = some (.inl (1, m, .inl f))) (hin : vp_in j m) (h : zrun X mt call r n (pc + 1) ls (.int (f j.toNatClampNeg) :: rest) M = res) : zrun X mt call r (n + 1) pc ls (.int j :: .ref a :: rest) M = res := by
  refine zr_s1 htb rfl rfl rfl ?_ h
  have hz : zstat a = none := by
    unfold zstat
    rw [if_neg (by omega), if_neg (by omega), if_neg (by omega)]
  simp only [zs1, hz, hob]
  rw [if_neg hin]
theorem zr_iast {a m : Nat} {f : Nat → Int32} {j v : Int32} (htb : r.2.2.2.2.2.2.2 pc = some (.iastore, 1)) (hob : zob M a = some (.inl (0, m, .inl f))) (hin : vp_in j m) (h : zrun X mt call r n (pc + 1) ls rest (zset M a (.inl (0, m, .inl (upd f j.toNatClampNeg v)))) = res) : zrun X mt call r (n + 1) pc ls (.int v :: .int j :: .ref a :: rest) M = res := by
  refine zr_s1 htb rfl rfl rfl ?_ h
  simp only [zs1, hob]
  rw [if_neg hin]
theorem zr_bast {a m : Nat} {f : Nat → Int32} {j v : Int32} (htb : r.2.2.2.2.2.2.2 pc = some (.bastore, 1)) (hob : zob M a = some (.inl (1, m, .inl f))) (hin : vp_in j m) (h : zrun X mt call r n (pc + 1) ls rest (zset M a (.inl (1, m, .inl (upd f j.toNatClampNeg (vp_nar .byte v))))) = res) : zrun X mt call r (n + 1) pc ls (.int v :: .int j :: .ref a :: rest) M = res := by
  refine zr_s1 htb rfl rfl rfl ?_ h
  simp only [zs1, hob]
  rw [if_neg hin]
theorem zr_alen {a t : Nat} {x : vp_A} (htb : r.2.2.2.2.2.2.2 pc = some (.arraylength, 1)) (ha : a < 1000000) (hob : zob M a = some (.inl (t, x))) (h : zrun X mt call r n (pc + 1) ls (.int (Int32.ofNat x.1) :: rest) M = res) : zrun X mt call r (n + 1) pc ls (.ref a :: rest) M = res := by
  refine zr_s1 htb rfl rfl rfl ?_ h
  simp only [zs1, hob]
  rw [if_neg (Nat.ne_of_lt (Nat.lt_trans ha (by decide)))]
end ZR
theorem zob_lt {M : zM} {a : Nat} {e : zE} (h : zob M a = some e) : a < M.1 := by
  unfold zob at h
  by_cases q : a < M.1
  · exact q
  · rw [if_neg q] at h; cases h
theorem zob_set {M : zM} {a : Nat} {e e0 : zE} (h : zob M a = some e0) : zob (zset M a e) a = some e := by
  have := zob_lt h
  unfold zob zset
  dsimp only
  rw [if_pos this]
  unfold va_up
  rw [if_pos rfl]
theorem zob_set_ne {M : zM} {a b : Nat} {e : zE} (h : b ≠ a) : zob (zset M a e) b = zob M b := by
  unfold zob zset
  dsimp only
  unfold va_up
  rw [if_neg h]
theorem zset_set {M : zM} {a : Nat} {e e2 : zE} : zset (zset M a e) a e2 = zset M a e2 := by
  unfold zset
  dsimp only
  refine congrArg (fun z => (M.1, M.2.1, z)) (funext fun j => ?_)
  unfold va_up
  split <;> rfl
theorem zset_comm {M : zM} {a b : Nat} {e e2 : zE} (h : a ≠ b) : zset (zset M a e) b e2 = zset (zset M b e2) a e := by
  unfold zset
  dsimp only
  refine congrArg (fun z => (M.1, M.2.1, z)) (funext fun j => ?_)
  unfold va_up
  by_cases q : j = a
  · subst q
    rw [if_neg h, if_pos rfl, if_pos rfl]
  · rw [if_neg q, if_neg q]
theorem zset_self {M : zM} {a : Nat} {e : zE} (h : zob M a = some e) : zset M a e = M := by
  have h1 := zob_lt h
  unfold zob at h
  rw [if_pos h1] at h
  have h := Option.some.inj h
  unfold zset
  have : va_up M.2.2 a e = M.2.2 := by
    funext j
    unfold va_up
    split
    · rename_i q
      rw [q, h]
    · rfl
  rw [this]
/-- Arrays.fill of a row of bytes -/
def zbf (f : Nat → Int32) (v : Int32) (i : Nat) : Nat → Int32 := fun j => if j < i then v else f j
theorem zbf_S (f : Nat → Int32) (v : Int32) (i : Nat) : upd (zbf f v i) i v = zbf f v (i + 1) := by
  funext j
  unfold upd zbf
  by_cases h : j = i
  · subst h
    rw [if_pos rfl, if_pos (by omega)]
  · rw [if_neg h]
    by_cases h2 : j < i
    · rw [if_pos h2, if_pos (by omega)]
    · rw [if_neg h2, if_neg (by omega)]
