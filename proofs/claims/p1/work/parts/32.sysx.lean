/-! the class makes a system -/
def zxS (cb ch : Int32) : List Value := [.ref 21, .int cb, .int ch, .int 256, .int 128]
def zxF (sc : Int32) : List Value := [.ref 1, .int 0, .ref 2, .int sc, .ref 3, .ref 4, .ref 5]
theorem zxS_0 : zf_20 = zxS 0 0 := rfl
theorem zxF_0 : zf_0 = zxF 0 := rfl
def zxE (M : zM) (f : Nat → Int32) (cb ch sc : Int32) (k : Nat) : zE := if k = 21 then .inl (1, 4096, .inl f) else if k = 20 then .inr (7, zxS cb ch) else if k = 0 then .inr (11, zxF sc) else M.2.2 k
def zxM (M : zM) (f : Nat → Int32) (cb ch sc : Int32) : zM := (M.1, M.2.1, zxE M f cb ch sc)
section ZXM
variable {M : zM} {f : Nat → Int32} {cb ch sc : Int32}
theorem zx_b (hM : 486 ≤ M.1) : zob (zxM M f cb ch sc) 21 = some (.inl (1, 4096, .inl f)) := by
  unfold zob zxM zxE
  dsimp only
  rw [if_pos (by omega), if_pos rfl]
theorem zx_s (hM : 486 ≤ M.1) : zob (zxM M f cb ch sc) 20 = some (.inr (7, zxS cb ch)) := by
  unfold zob zxM zxE
  dsimp only
  rw [if_pos (by omega), if_neg (by decide), if_pos rfl]
theorem zx_0 (hM : 486 ≤ M.1) : zob (zxM M f cb ch sc) 0 = some (.inr (11, zxF sc)) := by
  unfold zob zxM zxE
  dsimp only
  rw [if_pos (by omega), if_neg (by decide), if_neg (by decide), if_pos rfl]
theorem zx_o {k : Nat} (h1 : k ≠ 21) (h2 : k ≠ 20) (h3 : k ≠ 0) : zob (zxM M f cb ch sc) k = zob M k := by
  unfold zob zxM zxE
  dsimp only
  rw [if_neg h1, if_neg h2, if_neg h3]
theorem zxs_ext {a : Nat} {e : zE} {f' : Nat → Int32} {cb' ch' sc' : Int32} (h : ∀ k, (if k = a then e else zxE M f cb ch sc k) = zxE M f' cb' ch' sc' k) : zset (zxM M f cb ch sc) a e = zxM M f' cb' ch' sc' := by
  unfold zset zxM
  dsimp only
  refine congrArg (fun z => (M.1, M.2.1, z)) (funext fun k => ?_)
  unfold va_up
  exact h k
theorem zxs_b {f' : Nat → Int32} : zset (zxM M f cb ch sc) 21 (.inl (1, 4096, .inl f')) = zxM M f' cb ch sc := zxs_ext fun k => by
  unfold zxE
  by_cases q : k = 21
  · rw [if_pos q, if_pos q]
  · rw [if_neg q, if_neg q, if_neg q]
theorem zxs_s {cb' ch' : Int32} : zset (zxM M f cb ch sc) 20 (.inr (7, zxS cb' ch')) = zxM M f cb' ch' sc := zxs_ext fun k => by
  unfold zxE
  by_cases q : k = 20
  · rw [if_pos q, if_pos q, if_neg (by omega)]
  · rw [if_neg q, if_neg q, if_neg q]
theorem zxs_0 {sc' : Int32} : zset (zxM M f cb ch sc) 0 (.inr (11, zxF sc')) = zxM M f cb ch sc' := zxs_ext fun k => by
  unfold zxE
  by_cases q : k = 0
  · rw [if_pos q, if_pos q, if_neg (by omega), if_neg (by omega)]
  · rw [if_neg q, if_neg q, if_neg q]
theorem zxM_self (h1 : zob M 21 = some (.inl (1, 4096, .inl f))) (h2 : zob M 20 = some (.inr (7, zxS cb ch))) (h3 : zob M 0 = some (.inr (11, zxF sc))) : zxM M f cb ch sc = M := by
  have key : ∀ {a : Nat} {e : zE}, zob M a = some e → M.2.2 a = e := by
    intro a e h
    have h1 := zob_lt h
    unfold zob at h
    rw [if_pos h1] at h
    exact Option.some.inj h
  unfold zxM
  have : zxE M f cb ch sc = M.2.2 := by
    funext k
    unfold zxE
    split
    · rename_i q; rw [q, key h1]
    · split
      · rename_i q; rw [q, key h2]
      · split
        · rename_i q; rw [q, key h3]
        · rfl
  rw [this]
end ZXM
section ZXS
variable {X : zX} {mt : Nat → Option zMe} {call : zCall} {r : zMe} {n pc : Nat} {ls : zL} {rest : List Value} {res : Option (Option Value × zM)} {M : zM} {f : Nat → Int32} {cb ch sc : Int32}
theorem zr_bastX {j v : Int32} {k : Nat} (htb : r.2.2.2.2.2.2.2 pc = some (.bastore, 1)) (hM : 486 ≤ M.1) (hj : j = nI k) (hk : k < 4096) (h : zrun X mt call r n (pc + 1) ls rest (zxM M (upd f k (vp_nar .byte v)) cb ch sc) = res) : zrun X mt call r (n + 1) pc ls (.int v :: .int j :: .ref 21 :: rest) (zxM M f cb ch sc) = res := by
  subst hj
  refine zr_bast htb (zx_b hM) (vp_in_nI hk (by omega)) ?_
  rw [nI_clamp (by omega), zxs_b]
  exact h
theorem zr_putXs {x k q : Nat} {v : Value} {cb' ch' : Int32} (htb : r.2.2.2.2.2.2.2 pc = some (.putfield x, 3)) (hlk : zlk r.2.2.2.2.2.1 x = some (0, 7, k, q)) (hM : 486 ≤ M.1) {w : vw_C} (hw : zcls[7]? = some w) (hc : k < (zxS cb ch).length ∧ k < w.2.2 ∧ zfit (zfty 7 k) v = true ∧ ((w.2.1 k).2.2.2 = false ∨ ((r.2.2.2.2.2.2.1 == 2) = true ∧ (w.2.1 k).1 = zown r.2.2.2.2.2.1))) (he : (zxS cb ch).set k v = zxS cb' ch') (h : zrun X mt call r n (pc + 3) ls rest (zxM M f cb' ch' sc) = res) : zrun X mt call r (n + 1) pc ls (v :: .ref 20 :: rest) (zxM M f cb ch sc) = res := by
  refine zr_put htb hlk (zx_s hM) hw hc ?_
  rw [he, zxs_s]
  exact h
theorem zr_putX0 {x k q : Nat} {v : Value} {sc' : Int32} (htb : r.2.2.2.2.2.2.2 pc = some (.putfield x, 3)) (hlk : zlk r.2.2.2.2.2.1 x = some (0, 11, k, q)) (hM : 486 ≤ M.1) {w : vw_C} (hw : zcls[11]? = some w) (hc : k < (zxF sc).length ∧ k < w.2.2 ∧ zfit (zfty 11 k) v = true ∧ ((w.2.1 k).2.2.2 = false ∨ ((r.2.2.2.2.2.2.1 == 2) = true ∧ (w.2.1 k).1 = zown r.2.2.2.2.2.1))) (he : (zxF sc).set k v = zxF sc') (h : zrun X mt call r n (pc + 3) ls rest (zxM M f cb ch sc') = res) : zrun X mt call r (n + 1) pc ls (v :: .ref 0 :: rest) (zxM M f cb ch sc) = res := by
  refine zr_put htb hlk (zx_0 hM) hw hc ?_
  rw [he, zxs_0]
  exact h
end ZXS
section ZXL
variable {X : zX} {call : zCall} {M : zM} {f : Nat → Int32} {va vb sc : Int32}
theorem lay_2t (hM : 486 ≤ M.1) (hq : zcI .eq (vb &&& Int32.ofInt 4) 0 = true) {n : Nat} : ∃ f', zrun X zmt call zm_169 (n + 65) 0 [(0, .ref 20), (1, .int 0), (2, .int (Int8.ofInt 10).toInt32)] [] (zxM M f 2 vb sc) = some (none, zxM M f' 2 vb sc) := by
  apply Exists.intro
  refine zr_s0 rfl rfl rfl rfl ?_
  refine zr_if (t := 16) rfl rfl (fun h => absurd h (by decide)) (fun _ => ?_)
  refine zr_s0 rfl rfl rfl rfl ?_
  refine zr_s0 rfl rfl rfl rfl ?_
  refine zr_s0 rfl rfl rfl rfl ?_
  refine zr_get rfl rfl (zx_s hM) rfl ?_
  refine zr_s0 rfl rfl rfl rfl ?_
  refine zr_icmp (t := 17) rfl rfl (fun _ => ?_) (fun h => absurd h (by decide))
  refine zr_s0 rfl rfl rfl rfl ?_
  refine zr_s0 rfl rfl rfl rfl ?_
  refine zr_s0 rfl rfl rfl rfl ?_
  refine zr_s0 rfl rfl rfl rfl ?_
  refine zr_get rfl rfl (zx_s hM) rfl ?_
  refine zr_icmp (t := 74) rfl rfl (fun h => absurd h (by decide)) (fun _ => ?_)
  refine zr_s0 rfl rfl rfl rfl ?_
  refine zr_get rfl rfl (zx_s hM) rfl ?_
  refine zr_s0 rfl rfl rfl rfl ?_
  refine zr_s0 rfl rfl rfl rfl ?_
  refine zr_if (t := 49) rfl rfl (fun h33 => ?_) (fun h => Bool.noConfusion (hq.symm.trans h))
  refine zr_s0 rfl rfl rfl rfl ?_
  refine zr_s0 rfl rfl rfl rfl ?_
  refine zr_s0 rfl rfl rfl rfl ?_
  refine zr_s0 rfl rfl rfl rfl ?_
  refine zr_s0 rfl rfl rfl rfl ?_
  refine zr_get rfl rfl (zx_s hM) rfl ?_
  refine zr_s0 rfl rfl rfl rfl ?_
  refine zr_s0 rfl rfl rfl rfl ?_
  refine zr_s0 rfl rfl rfl rfl ?_
  refine zr_s0 rfl rfl rfl rfl ?_
  refine zr_s0 rfl rfl rfl rfl ?_
  refine zr_s0 rfl rfl rfl rfl ?_
  refine zr_s0 rfl rfl rfl rfl ?_
  refine zr_bastX (k := 0) rfl hM (by decide) (by decide) ?_
  refine zr_s0 rfl rfl rfl rfl ?_
  refine zr_s0 rfl rfl rfl rfl ?_
  refine zr_s0 rfl rfl rfl rfl ?_
  refine zr_s0 rfl rfl rfl rfl ?_
  refine zr_get rfl rfl (zx_s hM) rfl ?_
  refine zr_icmp (t := 74) rfl rfl (fun h => absurd h (by decide)) (fun _ => ?_)
  refine zr_s0 rfl rfl rfl rfl ?_
  refine zr_get rfl rfl (zx_s hM) rfl ?_
  refine zr_s0 rfl rfl rfl rfl ?_
  refine zr_s0 rfl rfl rfl rfl ?_
  refine zr_if (t := 49) rfl rfl (fun h33 => ?_) (fun h => Bool.noConfusion (hq.symm.trans h))
  refine zr_s0 rfl rfl rfl rfl ?_
  refine zr_s0 rfl rfl rfl rfl ?_
  refine zr_s0 rfl rfl rfl rfl ?_
  refine zr_s0 rfl rfl rfl rfl ?_
  refine zr_s0 rfl rfl rfl rfl ?_
  refine zr_get rfl rfl (zx_s hM) rfl ?_
  refine zr_s0 rfl rfl rfl rfl ?_
  refine zr_s0 rfl rfl rfl rfl ?_
  refine zr_s0 rfl rfl rfl rfl ?_
  refine zr_s0 rfl rfl rfl rfl ?_
  refine zr_s0 rfl rfl rfl rfl ?_
  refine zr_s0 rfl rfl rfl rfl ?_
  refine zr_s0 rfl rfl rfl rfl ?_
  refine zr_bastX (k := 1) rfl hM (by decide) (by decide) ?_
  refine zr_s0 rfl rfl rfl rfl ?_
  refine zr_s0 rfl rfl rfl rfl ?_
  refine zr_s0 rfl rfl rfl rfl ?_
  refine zr_s0 rfl rfl rfl rfl ?_
  refine zr_get rfl rfl (zx_s hM) rfl ?_
  refine zr_icmp (t := 74) rfl rfl (fun _ => ?_) (fun h => absurd h (by decide))
  exact zr_ret rfl rfl rfl
theorem lay_2f (hM : 486 ≤ M.1) (hq : zcI .eq (vb &&& Int32.ofInt 4) 0 = false) {n : Nat} : ∃ f', zrun X zmt call zm_169 (n + 77) 0 [(0, .ref 20), (1, .int 0), (2, .int (Int8.ofInt 10).toInt32)] [] (zxM M f 2 vb sc) = some (none, zxM M f' 2 vb sc) := by
  apply Exists.intro
  refine zr_s0 rfl rfl rfl rfl ?_
  refine zr_if (t := 16) rfl rfl (fun h => absurd h (by decide)) (fun _ => ?_)
  refine zr_s0 rfl rfl rfl rfl ?_
  refine zr_s0 rfl rfl rfl rfl ?_
  refine zr_s0 rfl rfl rfl rfl ?_
  refine zr_get rfl rfl (zx_s hM) rfl ?_
  refine zr_s0 rfl rfl rfl rfl ?_
  refine zr_icmp (t := 17) rfl rfl (fun _ => ?_) (fun h => absurd h (by decide))
  refine zr_s0 rfl rfl rfl rfl ?_
  refine zr_s0 rfl rfl rfl rfl ?_
  refine zr_s0 rfl rfl rfl rfl ?_
  refine zr_s0 rfl rfl rfl rfl ?_
  refine zr_get rfl rfl (zx_s hM) rfl ?_
  refine zr_icmp (t := 74) rfl rfl (fun h => absurd h (by decide)) (fun _ => ?_)
  refine zr_s0 rfl rfl rfl rfl ?_
  refine zr_get rfl rfl (zx_s hM) rfl ?_
  refine zr_s0 rfl rfl rfl rfl ?_
  refine zr_s0 rfl rfl rfl rfl ?_
  refine zr_if (t := 49) rfl rfl (fun h => Bool.noConfusion (hq.symm.trans h)) (fun h33 => ?_)
  refine zr_s0 rfl rfl rfl rfl ?_
  refine zr_s0 rfl rfl rfl rfl ?_
  refine zr_get rfl rfl (zx_s hM) rfl ?_
  refine zr_s0 rfl rfl rfl rfl ?_
  refine zr_s0 rfl rfl rfl rfl ?_
  refine zr_s0 rfl rfl rfl rfl ?_
  refine zr_s0 rfl rfl rfl rfl ?_
  refine zr_s0 rfl rfl rfl rfl ?_
  refine zr_s0 rfl rfl rfl rfl ?_
  refine zr_s0 rfl rfl rfl rfl ?_
  refine zr_s0 rfl rfl rfl rfl ?_
  refine zr_get rfl rfl (zx_s hM) rfl ?_
  refine zr_s0 rfl rfl rfl rfl ?_
  refine zr_s0 rfl rfl rfl rfl ?_
  refine zr_s0 rfl rfl rfl rfl ?_
  refine zr_s0 rfl rfl rfl rfl ?_
  refine zr_s0 rfl rfl rfl rfl ?_
  refine zr_s0 rfl rfl rfl rfl ?_
  refine zr_s0 rfl rfl rfl rfl ?_
  refine zr_bastX (k := 1) rfl hM (by decide) (by decide) ?_
  refine zr_s0 rfl rfl rfl rfl ?_
  refine zr_s0 rfl rfl rfl rfl ?_
  refine zr_s0 rfl rfl rfl rfl ?_
  refine zr_s0 rfl rfl rfl rfl ?_
  refine zr_get rfl rfl (zx_s hM) rfl ?_
  refine zr_icmp (t := 74) rfl rfl (fun h => absurd h (by decide)) (fun _ => ?_)
  refine zr_s0 rfl rfl rfl rfl ?_
  refine zr_get rfl rfl (zx_s hM) rfl ?_
  refine zr_s0 rfl rfl rfl rfl ?_
  refine zr_s0 rfl rfl rfl rfl ?_
  refine zr_if (t := 49) rfl rfl (fun h => Bool.noConfusion (hq.symm.trans h)) (fun h33 => ?_)
  refine zr_s0 rfl rfl rfl rfl ?_
  refine zr_s0 rfl rfl rfl rfl ?_
  refine zr_get rfl rfl (zx_s hM) rfl ?_
  refine zr_s0 rfl rfl rfl rfl ?_
  refine zr_s0 rfl rfl rfl rfl ?_
  refine zr_s0 rfl rfl rfl rfl ?_
  refine zr_s0 rfl rfl rfl rfl ?_
  refine zr_s0 rfl rfl rfl rfl ?_
  refine zr_s0 rfl rfl rfl rfl ?_
  refine zr_s0 rfl rfl rfl rfl ?_
  refine zr_s0 rfl rfl rfl rfl ?_
  refine zr_get rfl rfl (zx_s hM) rfl ?_
  refine zr_s0 rfl rfl rfl rfl ?_
  refine zr_s0 rfl rfl rfl rfl ?_
  refine zr_s0 rfl rfl rfl rfl ?_
  refine zr_s0 rfl rfl rfl rfl ?_
  refine zr_s0 rfl rfl rfl rfl ?_
  refine zr_s0 rfl rfl rfl rfl ?_
  refine zr_s0 rfl rfl rfl rfl ?_
  refine zr_bastX (k := 0) rfl hM (by decide) (by decide) ?_
  refine zr_s0 rfl rfl rfl rfl ?_
  refine zr_s0 rfl rfl rfl rfl ?_
  refine zr_s0 rfl rfl rfl rfl ?_
  refine zr_s0 rfl rfl rfl rfl ?_
  refine zr_get rfl rfl (zx_s hM) rfl ?_
  refine zr_icmp (t := 74) rfl rfl (fun _ => ?_) (fun h => absurd h (by decide))
  exact zr_ret rfl rfl rfl
theorem lay_3t (hM : 486 ≤ M.1) (hq : zcI .eq (vb &&& Int32.ofInt 4) 0 = true) {n : Nat} : ∃ f', zrun X zmt call zm_169 (n + 90) 0 [(0, .ref 20), (1, .int 0), (2, .int (Int8.ofInt 10).toInt32)] [] (zxM M f 3 vb sc) = some (none, zxM M f' 3 vb sc) := by
  apply Exists.intro
  refine zr_s0 rfl rfl rfl rfl ?_
  refine zr_if (t := 16) rfl rfl (fun h => absurd h (by decide)) (fun _ => ?_)
  refine zr_s0 rfl rfl rfl rfl ?_
  refine zr_s0 rfl rfl rfl rfl ?_
  refine zr_s0 rfl rfl rfl rfl ?_
  refine zr_get rfl rfl (zx_s hM) rfl ?_
  refine zr_s0 rfl rfl rfl rfl ?_
  refine zr_icmp (t := 17) rfl rfl (fun _ => ?_) (fun h => absurd h (by decide))
  refine zr_s0 rfl rfl rfl rfl ?_
  refine zr_s0 rfl rfl rfl rfl ?_
  refine zr_s0 rfl rfl rfl rfl ?_
  refine zr_s0 rfl rfl rfl rfl ?_
  refine zr_get rfl rfl (zx_s hM) rfl ?_
  refine zr_icmp (t := 74) rfl rfl (fun h => absurd h (by decide)) (fun _ => ?_)
  refine zr_s0 rfl rfl rfl rfl ?_
  refine zr_get rfl rfl (zx_s hM) rfl ?_
  refine zr_s0 rfl rfl rfl rfl ?_
  refine zr_s0 rfl rfl rfl rfl ?_
  refine zr_if (t := 49) rfl rfl (fun h33 => ?_) (fun h => Bool.noConfusion (hq.symm.trans h))
  refine zr_s0 rfl rfl rfl rfl ?_
  refine zr_s0 rfl rfl rfl rfl ?_
  refine zr_s0 rfl rfl rfl rfl ?_
  refine zr_s0 rfl rfl rfl rfl ?_
  refine zr_s0 rfl rfl rfl rfl ?_
  refine zr_get rfl rfl (zx_s hM) rfl ?_
  refine zr_s0 rfl rfl rfl rfl ?_
  refine zr_s0 rfl rfl rfl rfl ?_
  refine zr_s0 rfl rfl rfl rfl ?_
  refine zr_s0 rfl rfl rfl rfl ?_
  refine zr_s0 rfl rfl rfl rfl ?_
  refine zr_s0 rfl rfl rfl rfl ?_
  refine zr_s0 rfl rfl rfl rfl ?_
  refine zr_bastX (k := 0) rfl hM (by decide) (by decide) ?_
  refine zr_s0 rfl rfl rfl rfl ?_
  refine zr_s0 rfl rfl rfl rfl ?_
  refine zr_s0 rfl rfl rfl rfl ?_
  refine zr_s0 rfl rfl rfl rfl ?_
  refine zr_get rfl rfl (zx_s hM) rfl ?_
  refine zr_icmp (t := 74) rfl rfl (fun h => absurd h (by decide)) (fun _ => ?_)
  refine zr_s0 rfl rfl rfl rfl ?_
  refine zr_get rfl rfl (zx_s hM) rfl ?_
  refine zr_s0 rfl rfl rfl rfl ?_
  refine zr_s0 rfl rfl rfl rfl ?_
  refine zr_if (t := 49) rfl rfl (fun h33 => ?_) (fun h => Bool.noConfusion (hq.symm.trans h))
  refine zr_s0 rfl rfl rfl rfl ?_
  refine zr_s0 rfl rfl rfl rfl ?_
  refine zr_s0 rfl rfl rfl rfl ?_
  refine zr_s0 rfl rfl rfl rfl ?_
  refine zr_s0 rfl rfl rfl rfl ?_
  refine zr_get rfl rfl (zx_s hM) rfl ?_
  refine zr_s0 rfl rfl rfl rfl ?_
  refine zr_s0 rfl rfl rfl rfl ?_
  refine zr_s0 rfl rfl rfl rfl ?_
  refine zr_s0 rfl rfl rfl rfl ?_
  refine zr_s0 rfl rfl rfl rfl ?_
  refine zr_s0 rfl rfl rfl rfl ?_
  refine zr_s0 rfl rfl rfl rfl ?_
  refine zr_bastX (k := 1) rfl hM (by decide) (by decide) ?_
  refine zr_s0 rfl rfl rfl rfl ?_
  refine zr_s0 rfl rfl rfl rfl ?_
  refine zr_s0 rfl rfl rfl rfl ?_
  refine zr_s0 rfl rfl rfl rfl ?_
  refine zr_get rfl rfl (zx_s hM) rfl ?_
  refine zr_icmp (t := 74) rfl rfl (fun h => absurd h (by decide)) (fun _ => ?_)
  refine zr_s0 rfl rfl rfl rfl ?_
  refine zr_get rfl rfl (zx_s hM) rfl ?_
  refine zr_s0 rfl rfl rfl rfl ?_
  refine zr_s0 rfl rfl rfl rfl ?_
  refine zr_if (t := 49) rfl rfl (fun h33 => ?_) (fun h => Bool.noConfusion (hq.symm.trans h))
  refine zr_s0 rfl rfl rfl rfl ?_
  refine zr_s0 rfl rfl rfl rfl ?_
  refine zr_s0 rfl rfl rfl rfl ?_
  refine zr_s0 rfl rfl rfl rfl ?_
  refine zr_s0 rfl rfl rfl rfl ?_
  refine zr_get rfl rfl (zx_s hM) rfl ?_
  refine zr_s0 rfl rfl rfl rfl ?_
  refine zr_s0 rfl rfl rfl rfl ?_
  refine zr_s0 rfl rfl rfl rfl ?_
  refine zr_s0 rfl rfl rfl rfl ?_
  refine zr_s0 rfl rfl rfl rfl ?_
  refine zr_s0 rfl rfl rfl rfl ?_
  refine zr_s0 rfl rfl rfl rfl ?_
  refine zr_bastX (k := 2) rfl hM (by decide) (by decide) ?_
  refine zr_s0 rfl rfl rfl rfl ?_
  refine zr_s0 rfl rfl rfl rfl ?_
  refine zr_s0 rfl rfl rfl rfl ?_
  refine zr_s0 rfl rfl rfl rfl ?_
  refine zr_get rfl rfl (zx_s hM) rfl ?_
  refine zr_icmp (t := 74) rfl rfl (fun _ => ?_) (fun h => absurd h (by decide))
  exact zr_ret rfl rfl rfl
theorem lay_3f (hM : 486 ≤ M.1) (hq : zcI .eq (vb &&& Int32.ofInt 4) 0 = false) {n : Nat} : ∃ f', zrun X zmt call zm_169 (n + 108) 0 [(0, .ref 20), (1, .int 0), (2, .int (Int8.ofInt 10).toInt32)] [] (zxM M f 3 vb sc) = some (none, zxM M f' 3 vb sc) := by
  apply Exists.intro
  refine zr_s0 rfl rfl rfl rfl ?_
  refine zr_if (t := 16) rfl rfl (fun h => absurd h (by decide)) (fun _ => ?_)
  refine zr_s0 rfl rfl rfl rfl ?_
  refine zr_s0 rfl rfl rfl rfl ?_
  refine zr_s0 rfl rfl rfl rfl ?_
  refine zr_get rfl rfl (zx_s hM) rfl ?_
  refine zr_s0 rfl rfl rfl rfl ?_
  refine zr_icmp (t := 17) rfl rfl (fun _ => ?_) (fun h => absurd h (by decide))
  refine zr_s0 rfl rfl rfl rfl ?_
  refine zr_s0 rfl rfl rfl rfl ?_
  refine zr_s0 rfl rfl rfl rfl ?_
  refine zr_s0 rfl rfl rfl rfl ?_
  refine zr_get rfl rfl (zx_s hM) rfl ?_
  refine zr_icmp (t := 74) rfl rfl (fun h => absurd h (by decide)) (fun _ => ?_)
  refine zr_s0 rfl rfl rfl rfl ?_
  refine zr_get rfl rfl (zx_s hM) rfl ?_
  refine zr_s0 rfl rfl rfl rfl ?_
  refine zr_s0 rfl rfl rfl rfl ?_
  refine zr_if (t := 49) rfl rfl (fun h => Bool.noConfusion (hq.symm.trans h)) (fun h33 => ?_)
  refine zr_s0 rfl rfl rfl rfl ?_
  refine zr_s0 rfl rfl rfl rfl ?_
  refine zr_get rfl rfl (zx_s hM) rfl ?_
  refine zr_s0 rfl rfl rfl rfl ?_
  refine zr_s0 rfl rfl rfl rfl ?_
  refine zr_s0 rfl rfl rfl rfl ?_
  refine zr_s0 rfl rfl rfl rfl ?_
  refine zr_s0 rfl rfl rfl rfl ?_
  refine zr_s0 rfl rfl rfl rfl ?_
  refine zr_s0 rfl rfl rfl rfl ?_
  refine zr_s0 rfl rfl rfl rfl ?_
  refine zr_get rfl rfl (zx_s hM) rfl ?_
  refine zr_s0 rfl rfl rfl rfl ?_
  refine zr_s0 rfl rfl rfl rfl ?_
  refine zr_s0 rfl rfl rfl rfl ?_
  refine zr_s0 rfl rfl rfl rfl ?_
  refine zr_s0 rfl rfl rfl rfl ?_
  refine zr_s0 rfl rfl rfl rfl ?_
  refine zr_s0 rfl rfl rfl rfl ?_
  refine zr_bastX (k := 2) rfl hM (by decide) (by decide) ?_
  refine zr_s0 rfl rfl rfl rfl ?_
  refine zr_s0 rfl rfl rfl rfl ?_
  refine zr_s0 rfl rfl rfl rfl ?_
  refine zr_s0 rfl rfl rfl rfl ?_
  refine zr_get rfl rfl (zx_s hM) rfl ?_
  refine zr_icmp (t := 74) rfl rfl (fun h => absurd h (by decide)) (fun _ => ?_)
  refine zr_s0 rfl rfl rfl rfl ?_
  refine zr_get rfl rfl (zx_s hM) rfl ?_
  refine zr_s0 rfl rfl rfl rfl ?_
  refine zr_s0 rfl rfl rfl rfl ?_
  refine zr_if (t := 49) rfl rfl (fun h => Bool.noConfusion (hq.symm.trans h)) (fun h33 => ?_)
  refine zr_s0 rfl rfl rfl rfl ?_
  refine zr_s0 rfl rfl rfl rfl ?_
  refine zr_get rfl rfl (zx_s hM) rfl ?_
  refine zr_s0 rfl rfl rfl rfl ?_
  refine zr_s0 rfl rfl rfl rfl ?_
  refine zr_s0 rfl rfl rfl rfl ?_
  refine zr_s0 rfl rfl rfl rfl ?_
  refine zr_s0 rfl rfl rfl rfl ?_
  refine zr_s0 rfl rfl rfl rfl ?_
  refine zr_s0 rfl rfl rfl rfl ?_
  refine zr_s0 rfl rfl rfl rfl ?_
  refine zr_get rfl rfl (zx_s hM) rfl ?_
  refine zr_s0 rfl rfl rfl rfl ?_
  refine zr_s0 rfl rfl rfl rfl ?_
  refine zr_s0 rfl rfl rfl rfl ?_
  refine zr_s0 rfl rfl rfl rfl ?_
  refine zr_s0 rfl rfl rfl rfl ?_
  refine zr_s0 rfl rfl rfl rfl ?_
  refine zr_s0 rfl rfl rfl rfl ?_
  refine zr_bastX (k := 1) rfl hM (by decide) (by decide) ?_
  refine zr_s0 rfl rfl rfl rfl ?_
  refine zr_s0 rfl rfl rfl rfl ?_
  refine zr_s0 rfl rfl rfl rfl ?_
  refine zr_s0 rfl rfl rfl rfl ?_
  refine zr_get rfl rfl (zx_s hM) rfl ?_
  refine zr_icmp (t := 74) rfl rfl (fun h => absurd h (by decide)) (fun _ => ?_)
  refine zr_s0 rfl rfl rfl rfl ?_
  refine zr_get rfl rfl (zx_s hM) rfl ?_
  refine zr_s0 rfl rfl rfl rfl ?_
  refine zr_s0 rfl rfl rfl rfl ?_
  refine zr_if (t := 49) rfl rfl (fun h => Bool.noConfusion (hq.symm.trans h)) (fun h33 => ?_)
  refine zr_s0 rfl rfl rfl rfl ?_
  refine zr_s0 rfl rfl rfl rfl ?_
  refine zr_get rfl rfl (zx_s hM) rfl ?_
  refine zr_s0 rfl rfl rfl rfl ?_
  refine zr_s0 rfl rfl rfl rfl ?_
  refine zr_s0 rfl rfl rfl rfl ?_
  refine zr_s0 rfl rfl rfl rfl ?_
  refine zr_s0 rfl rfl rfl rfl ?_
  refine zr_s0 rfl rfl rfl rfl ?_
  refine zr_s0 rfl rfl rfl rfl ?_
  refine zr_s0 rfl rfl rfl rfl ?_
  refine zr_get rfl rfl (zx_s hM) rfl ?_
  refine zr_s0 rfl rfl rfl rfl ?_
  refine zr_s0 rfl rfl rfl rfl ?_
  refine zr_s0 rfl rfl rfl rfl ?_
  refine zr_s0 rfl rfl rfl rfl ?_
  refine zr_s0 rfl rfl rfl rfl ?_
  refine zr_s0 rfl rfl rfl rfl ?_
  refine zr_s0 rfl rfl rfl rfl ?_
  refine zr_bastX (k := 0) rfl hM (by decide) (by decide) ?_
  refine zr_s0 rfl rfl rfl rfl ?_
  refine zr_s0 rfl rfl rfl rfl ?_
  refine zr_s0 rfl rfl rfl rfl ?_
  refine zr_s0 rfl rfl rfl rfl ?_
  refine zr_get rfl rfl (zx_s hM) rfl ?_
  refine zr_icmp (t := 74) rfl rfl (fun _ => ?_) (fun h => absurd h (by decide))
  exact zr_ret rfl rfl rfl
theorem lay_4t (hM : 486 ≤ M.1) (hq : zcI .eq (vb &&& Int32.ofInt 4) 0 = true) {n : Nat} : ∃ f', zrun X zmt call zm_169 (n + 115) 0 [(0, .ref 20), (1, .int 0), (2, .int (Int8.ofInt 10).toInt32)] [] (zxM M f 4 vb sc) = some (none, zxM M f' 4 vb sc) := by
  apply Exists.intro
  refine zr_s0 rfl rfl rfl rfl ?_
  refine zr_if (t := 16) rfl rfl (fun h => absurd h (by decide)) (fun _ => ?_)
  refine zr_s0 rfl rfl rfl rfl ?_
  refine zr_s0 rfl rfl rfl rfl ?_
  refine zr_s0 rfl rfl rfl rfl ?_
  refine zr_get rfl rfl (zx_s hM) rfl ?_
  refine zr_s0 rfl rfl rfl rfl ?_
  refine zr_icmp (t := 17) rfl rfl (fun _ => ?_) (fun h => absurd h (by decide))
  refine zr_s0 rfl rfl rfl rfl ?_
  refine zr_s0 rfl rfl rfl rfl ?_
  refine zr_s0 rfl rfl rfl rfl ?_
  refine zr_s0 rfl rfl rfl rfl ?_
  refine zr_get rfl rfl (zx_s hM) rfl ?_
  refine zr_icmp (t := 74) rfl rfl (fun h => absurd h (by decide)) (fun _ => ?_)
  refine zr_s0 rfl rfl rfl rfl ?_
  refine zr_get rfl rfl (zx_s hM) rfl ?_
  refine zr_s0 rfl rfl rfl rfl ?_
  refine zr_s0 rfl rfl rfl rfl ?_
  refine zr_if (t := 49) rfl rfl (fun h33 => ?_) (fun h => Bool.noConfusion (hq.symm.trans h))
  refine zr_s0 rfl rfl rfl rfl ?_
  refine zr_s0 rfl rfl rfl rfl ?_
  refine zr_s0 rfl rfl rfl rfl ?_
  refine zr_s0 rfl rfl rfl rfl ?_
  refine zr_s0 rfl rfl rfl rfl ?_
  refine zr_get rfl rfl (zx_s hM) rfl ?_
  refine zr_s0 rfl rfl rfl rfl ?_
  refine zr_s0 rfl rfl rfl rfl ?_
  refine zr_s0 rfl rfl rfl rfl ?_
  refine zr_s0 rfl rfl rfl rfl ?_
  refine zr_s0 rfl rfl rfl rfl ?_
  refine zr_s0 rfl rfl rfl rfl ?_
  refine zr_s0 rfl rfl rfl rfl ?_
  refine zr_bastX (k := 0) rfl hM (by decide) (by decide) ?_
  refine zr_s0 rfl rfl rfl rfl ?_
  refine zr_s0 rfl rfl rfl rfl ?_
  refine zr_s0 rfl rfl rfl rfl ?_
  refine zr_s0 rfl rfl rfl rfl ?_
  refine zr_get rfl rfl (zx_s hM) rfl ?_
  refine zr_icmp (t := 74) rfl rfl (fun h => absurd h (by decide)) (fun _ => ?_)
  refine zr_s0 rfl rfl rfl rfl ?_
  refine zr_get rfl rfl (zx_s hM) rfl ?_
  refine zr_s0 rfl rfl rfl rfl ?_
  refine zr_s0 rfl rfl rfl rfl ?_
  refine zr_if (t := 49) rfl rfl (fun h33 => ?_) (fun h => Bool.noConfusion (hq.symm.trans h))
  refine zr_s0 rfl rfl rfl rfl ?_
  refine zr_s0 rfl rfl rfl rfl ?_
  refine zr_s0 rfl rfl rfl rfl ?_
  refine zr_s0 rfl rfl rfl rfl ?_
  refine zr_s0 rfl rfl rfl rfl ?_
  refine zr_get rfl rfl (zx_s hM) rfl ?_
  refine zr_s0 rfl rfl rfl rfl ?_
  refine zr_s0 rfl rfl rfl rfl ?_
  refine zr_s0 rfl rfl rfl rfl ?_
  refine zr_s0 rfl rfl rfl rfl ?_
  refine zr_s0 rfl rfl rfl rfl ?_
  refine zr_s0 rfl rfl rfl rfl ?_
  refine zr_s0 rfl rfl rfl rfl ?_
  refine zr_bastX (k := 1) rfl hM (by decide) (by decide) ?_
  refine zr_s0 rfl rfl rfl rfl ?_
  refine zr_s0 rfl rfl rfl rfl ?_
  refine zr_s0 rfl rfl rfl rfl ?_
  refine zr_s0 rfl rfl rfl rfl ?_
  refine zr_get rfl rfl (zx_s hM) rfl ?_
  refine zr_icmp (t := 74) rfl rfl (fun h => absurd h (by decide)) (fun _ => ?_)
  refine zr_s0 rfl rfl rfl rfl ?_
  refine zr_get rfl rfl (zx_s hM) rfl ?_
  refine zr_s0 rfl rfl rfl rfl ?_
  refine zr_s0 rfl rfl rfl rfl ?_
  refine zr_if (t := 49) rfl rfl (fun h33 => ?_) (fun h => Bool.noConfusion (hq.symm.trans h))
  refine zr_s0 rfl rfl rfl rfl ?_
  refine zr_s0 rfl rfl rfl rfl ?_
  refine zr_s0 rfl rfl rfl rfl ?_
  refine zr_s0 rfl rfl rfl rfl ?_
  refine zr_s0 rfl rfl rfl rfl ?_
  refine zr_get rfl rfl (zx_s hM) rfl ?_
  refine zr_s0 rfl rfl rfl rfl ?_
  refine zr_s0 rfl rfl rfl rfl ?_
  refine zr_s0 rfl rfl rfl rfl ?_
  refine zr_s0 rfl rfl rfl rfl ?_
  refine zr_s0 rfl rfl rfl rfl ?_
  refine zr_s0 rfl rfl rfl rfl ?_
  refine zr_s0 rfl rfl rfl rfl ?_
  refine zr_bastX (k := 2) rfl hM (by decide) (by decide) ?_
  refine zr_s0 rfl rfl rfl rfl ?_
  refine zr_s0 rfl rfl rfl rfl ?_
  refine zr_s0 rfl rfl rfl rfl ?_
  refine zr_s0 rfl rfl rfl rfl ?_
  refine zr_get rfl rfl (zx_s hM) rfl ?_
  refine zr_icmp (t := 74) rfl rfl (fun h => absurd h (by decide)) (fun _ => ?_)
  refine zr_s0 rfl rfl rfl rfl ?_
  refine zr_get rfl rfl (zx_s hM) rfl ?_
  refine zr_s0 rfl rfl rfl rfl ?_
  refine zr_s0 rfl rfl rfl rfl ?_
  refine zr_if (t := 49) rfl rfl (fun h33 => ?_) (fun h => Bool.noConfusion (hq.symm.trans h))
  refine zr_s0 rfl rfl rfl rfl ?_
  refine zr_s0 rfl rfl rfl rfl ?_
  refine zr_s0 rfl rfl rfl rfl ?_
  refine zr_s0 rfl rfl rfl rfl ?_
  refine zr_s0 rfl rfl rfl rfl ?_
  refine zr_get rfl rfl (zx_s hM) rfl ?_
  refine zr_s0 rfl rfl rfl rfl ?_
  refine zr_s0 rfl rfl rfl rfl ?_
  refine zr_s0 rfl rfl rfl rfl ?_
  refine zr_s0 rfl rfl rfl rfl ?_
  refine zr_s0 rfl rfl rfl rfl ?_
  refine zr_s0 rfl rfl rfl rfl ?_
  refine zr_s0 rfl rfl rfl rfl ?_
  refine zr_bastX (k := 3) rfl hM (by decide) (by decide) ?_
  refine zr_s0 rfl rfl rfl rfl ?_
  refine zr_s0 rfl rfl rfl rfl ?_
  refine zr_s0 rfl rfl rfl rfl ?_
  refine zr_s0 rfl rfl rfl rfl ?_
  refine zr_get rfl rfl (zx_s hM) rfl ?_
  refine zr_icmp (t := 74) rfl rfl (fun _ => ?_) (fun h => absurd h (by decide))
  exact zr_ret rfl rfl rfl
theorem lay_4f (hM : 486 ≤ M.1) (hq : zcI .eq (vb &&& Int32.ofInt 4) 0 = false) {n : Nat} : ∃ f', zrun X zmt call zm_169 (n + 139) 0 [(0, .ref 20), (1, .int 0), (2, .int (Int8.ofInt 10).toInt32)] [] (zxM M f 4 vb sc) = some (none, zxM M f' 4 vb sc) := by
  apply Exists.intro
  refine zr_s0 rfl rfl rfl rfl ?_
  refine zr_if (t := 16) rfl rfl (fun h => absurd h (by decide)) (fun _ => ?_)
  refine zr_s0 rfl rfl rfl rfl ?_
  refine zr_s0 rfl rfl rfl rfl ?_
  refine zr_s0 rfl rfl rfl rfl ?_
  refine zr_get rfl rfl (zx_s hM) rfl ?_
  refine zr_s0 rfl rfl rfl rfl ?_
  refine zr_icmp (t := 17) rfl rfl (fun _ => ?_) (fun h => absurd h (by decide))
  refine zr_s0 rfl rfl rfl rfl ?_
  refine zr_s0 rfl rfl rfl rfl ?_
  refine zr_s0 rfl rfl rfl rfl ?_
  refine zr_s0 rfl rfl rfl rfl ?_
  refine zr_get rfl rfl (zx_s hM) rfl ?_
  refine zr_icmp (t := 74) rfl rfl (fun h => absurd h (by decide)) (fun _ => ?_)
  refine zr_s0 rfl rfl rfl rfl ?_
  refine zr_get rfl rfl (zx_s hM) rfl ?_
  refine zr_s0 rfl rfl rfl rfl ?_
  refine zr_s0 rfl rfl rfl rfl ?_
  refine zr_if (t := 49) rfl rfl (fun h => Bool.noConfusion (hq.symm.trans h)) (fun h33 => ?_)
  refine zr_s0 rfl rfl rfl rfl ?_
  refine zr_s0 rfl rfl rfl rfl ?_
  refine zr_get rfl rfl (zx_s hM) rfl ?_
  refine zr_s0 rfl rfl rfl rfl ?_
  refine zr_s0 rfl rfl rfl rfl ?_
  refine zr_s0 rfl rfl rfl rfl ?_
  refine zr_s0 rfl rfl rfl rfl ?_
  refine zr_s0 rfl rfl rfl rfl ?_
  refine zr_s0 rfl rfl rfl rfl ?_
  refine zr_s0 rfl rfl rfl rfl ?_
  refine zr_s0 rfl rfl rfl rfl ?_
  refine zr_get rfl rfl (zx_s hM) rfl ?_
  refine zr_s0 rfl rfl rfl rfl ?_
  refine zr_s0 rfl rfl rfl rfl ?_
  refine zr_s0 rfl rfl rfl rfl ?_
  refine zr_s0 rfl rfl rfl rfl ?_
  refine zr_s0 rfl rfl rfl rfl ?_
  refine zr_s0 rfl rfl rfl rfl ?_
  refine zr_s0 rfl rfl rfl rfl ?_
  refine zr_bastX (k := 3) rfl hM (by decide) (by decide) ?_
  refine zr_s0 rfl rfl rfl rfl ?_
  refine zr_s0 rfl rfl rfl rfl ?_
  refine zr_s0 rfl rfl rfl rfl ?_
  refine zr_s0 rfl rfl rfl rfl ?_
  refine zr_get rfl rfl (zx_s hM) rfl ?_
  refine zr_icmp (t := 74) rfl rfl (fun h => absurd h (by decide)) (fun _ => ?_)
  refine zr_s0 rfl rfl rfl rfl ?_
  refine zr_get rfl rfl (zx_s hM) rfl ?_
  refine zr_s0 rfl rfl rfl rfl ?_
  refine zr_s0 rfl rfl rfl rfl ?_
  refine zr_if (t := 49) rfl rfl (fun h => Bool.noConfusion (hq.symm.trans h)) (fun h33 => ?_)
  refine zr_s0 rfl rfl rfl rfl ?_
  refine zr_s0 rfl rfl rfl rfl ?_
  refine zr_get rfl rfl (zx_s hM) rfl ?_
  refine zr_s0 rfl rfl rfl rfl ?_
  refine zr_s0 rfl rfl rfl rfl ?_
  refine zr_s0 rfl rfl rfl rfl ?_
  refine zr_s0 rfl rfl rfl rfl ?_
  refine zr_s0 rfl rfl rfl rfl ?_
  refine zr_s0 rfl rfl rfl rfl ?_
  refine zr_s0 rfl rfl rfl rfl ?_
  refine zr_s0 rfl rfl rfl rfl ?_
  refine zr_get rfl rfl (zx_s hM) rfl ?_
  refine zr_s0 rfl rfl rfl rfl ?_
  refine zr_s0 rfl rfl rfl rfl ?_
  refine zr_s0 rfl rfl rfl rfl ?_
  refine zr_s0 rfl rfl rfl rfl ?_
  refine zr_s0 rfl rfl rfl rfl ?_
  refine zr_s0 rfl rfl rfl rfl ?_
  refine zr_s0 rfl rfl rfl rfl ?_
  refine zr_bastX (k := 2) rfl hM (by decide) (by decide) ?_
  refine zr_s0 rfl rfl rfl rfl ?_
  refine zr_s0 rfl rfl rfl rfl ?_
  refine zr_s0 rfl rfl rfl rfl ?_
  refine zr_s0 rfl rfl rfl rfl ?_
  refine zr_get rfl rfl (zx_s hM) rfl ?_
  refine zr_icmp (t := 74) rfl rfl (fun h => absurd h (by decide)) (fun _ => ?_)
  refine zr_s0 rfl rfl rfl rfl ?_
  refine zr_get rfl rfl (zx_s hM) rfl ?_
  refine zr_s0 rfl rfl rfl rfl ?_
  refine zr_s0 rfl rfl rfl rfl ?_
  refine zr_if (t := 49) rfl rfl (fun h => Bool.noConfusion (hq.symm.trans h)) (fun h33 => ?_)
  refine zr_s0 rfl rfl rfl rfl ?_
  refine zr_s0 rfl rfl rfl rfl ?_
  refine zr_get rfl rfl (zx_s hM) rfl ?_
  refine zr_s0 rfl rfl rfl rfl ?_
  refine zr_s0 rfl rfl rfl rfl ?_
  refine zr_s0 rfl rfl rfl rfl ?_
  refine zr_s0 rfl rfl rfl rfl ?_
  refine zr_s0 rfl rfl rfl rfl ?_
  refine zr_s0 rfl rfl rfl rfl ?_
  refine zr_s0 rfl rfl rfl rfl ?_
  refine zr_s0 rfl rfl rfl rfl ?_
  refine zr_get rfl rfl (zx_s hM) rfl ?_
  refine zr_s0 rfl rfl rfl rfl ?_
  refine zr_s0 rfl rfl rfl rfl ?_
  refine zr_s0 rfl rfl rfl rfl ?_
  refine zr_s0 rfl rfl rfl rfl ?_
  refine zr_s0 rfl rfl rfl rfl ?_
  refine zr_s0 rfl rfl rfl rfl ?_
  refine zr_s0 rfl rfl rfl rfl ?_
  refine zr_bastX (k := 1) rfl hM (by decide) (by decide) ?_
  refine zr_s0 rfl rfl rfl rfl ?_
  refine zr_s0 rfl rfl rfl rfl ?_
  refine zr_s0 rfl rfl rfl rfl ?_
  refine zr_s0 rfl rfl rfl rfl ?_
  refine zr_get rfl rfl (zx_s hM) rfl ?_
  refine zr_icmp (t := 74) rfl rfl (fun h => absurd h (by decide)) (fun _ => ?_)
  refine zr_s0 rfl rfl rfl rfl ?_
  refine zr_get rfl rfl (zx_s hM) rfl ?_
  refine zr_s0 rfl rfl rfl rfl ?_
  refine zr_s0 rfl rfl rfl rfl ?_
  refine zr_if (t := 49) rfl rfl (fun h => Bool.noConfusion (hq.symm.trans h)) (fun h33 => ?_)
  refine zr_s0 rfl rfl rfl rfl ?_
  refine zr_s0 rfl rfl rfl rfl ?_
  refine zr_get rfl rfl (zx_s hM) rfl ?_
  refine zr_s0 rfl rfl rfl rfl ?_
  refine zr_s0 rfl rfl rfl rfl ?_
  refine zr_s0 rfl rfl rfl rfl ?_
  refine zr_s0 rfl rfl rfl rfl ?_
  refine zr_s0 rfl rfl rfl rfl ?_
  refine zr_s0 rfl rfl rfl rfl ?_
  refine zr_s0 rfl rfl rfl rfl ?_
  refine zr_s0 rfl rfl rfl rfl ?_
  refine zr_get rfl rfl (zx_s hM) rfl ?_
  refine zr_s0 rfl rfl rfl rfl ?_
  refine zr_s0 rfl rfl rfl rfl ?_
  refine zr_s0 rfl rfl rfl rfl ?_
  refine zr_s0 rfl rfl rfl rfl ?_
  refine zr_s0 rfl rfl rfl rfl ?_
  refine zr_s0 rfl rfl rfl rfl ?_
  refine zr_s0 rfl rfl rfl rfl ?_
  refine zr_bastX (k := 0) rfl hM (by decide) (by decide) ?_
  refine zr_s0 rfl rfl rfl rfl ?_
  refine zr_s0 rfl rfl rfl rfl ?_
  refine zr_s0 rfl rfl rfl rfl ?_
  refine zr_s0 rfl rfl rfl rfl ?_
  refine zr_get rfl rfl (zx_s hM) rfl ?_
  refine zr_icmp (t := 74) rfl rfl (fun _ => ?_) (fun h => absurd h (by decide))
  exact zr_ret rfl rfl rfl
end ZXL
