theorem fill_loop {X : zX} {call : zCall} {a m : Nat} {v : Int32} {f : Nat → Int32} {M : zM} (ha : a < 1000000) (hob : zob M a = some (.inl (1, m, .inl f))) (hm : m < 2 ^ 31) (hv : vp_nar .byte v = v) : ∀ (k i : Nat), i + k = m → zrun X zmt call zm_513 (9 * k + 4) 5 [(0, .ref a), (1, .int v), (2, .int (nI i)), (3, .int (nI m))] [] (zset M a (.inl (1, m, .inl (zbf f v i)))) = some (none, zset M a (.inl (1, m, .inl (zbf f v m)))) := by
  intro k
  induction k with
  | zero =>
    intro i hi
    have hi : i = m := by omega
    subst hi
    show zrun X zmt call zm_513 (3 + 1) 5 _ _ _ = _
    refine zr_s0 rfl rfl rfl rfl ?_
    refine zr_s0 rfl rfl rfl rfl ?_
    refine zr_icmp (t := 20) rfl rfl (fun h => ?_) (fun h => ?_)
    · exact zr_ret rfl rfl rfl
    · exact absurd (Int32.le_refl (nI i)) (by simpa [zcI] using h)
  | succ k ih =>
    intro i hi
    have e : 9 * (k + 1) + 4 = (9 * k + 4) + 9 := by omega
    rw [e]
    refine zr_s0 rfl rfl rfl rfl ?_
    refine zr_s0 rfl rfl rfl rfl ?_
    refine zr_icmp (t := 20) rfl rfl (fun h => ?_) (fun h => ?_)
    · exact absurd (by simpa [zcI] using h) (nI_ge (by omega) hm)
    · refine zr_s0 rfl rfl rfl rfl ?_
      refine zr_s0 rfl rfl rfl rfl ?_
      refine zr_s0 rfl rfl rfl rfl ?_
      refine zr_bast rfl (zob_set hob) (vp_in_nI (by omega) (by omega)) ?_
      rw [zset_set, nI_clamp (by omega), hv, zbf_S]
      refine zr_s0 rfl rfl rfl rfl ?_
      refine zr_s0 rfl rfl rfl rfl ?_
      have e2 : nI i + Int32.ofInt 1 = nI (i + 1) := nI_1 i
      rw [e2]
      exact ih (i + 1) (by omega)
