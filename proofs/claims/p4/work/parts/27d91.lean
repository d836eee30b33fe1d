/-! THE CLAIM'S WALK, by the evaluator -/
theorem zK_start {s : State} {args : Array Value} (hts : ∀ w ∈ zW, w.before args s = true) : ∃ (dC : Nat → ClassId) (dI : Nat → Nat → Nat), va_K (dC, dI) zcls [] s := by
  have one : ∀ (k : Nat) (q : vw_C), zcls[k]? = some q → ∃ z : ClassId × (Nat → Nat), u_Kn s q.1 q.2.1 q.2.2 z.1 z.2 := by
    intro k q hq
    obtain ⟨c0, i0, h⟩ := u_known (C := q.1) (T := q.2.1) (N := q.2.2) (n := q.2.2) hts (zcls_ok k q hq).1 (hts _ (zw_cls k q hq).1)
    exact ⟨(c0, i0), h⟩
  obtain ⟨z0, -⟩ := one 0 _ rfl
  have h0 : ∀ k : Nat, ∃ z : ClassId × (Nat → Nat), ∀ q, zcls[k]? = some q → u_Kn s q.1 q.2.1 q.2.2 z.1 z.2 := by
    intro k
    cases hq : zcls[k]? with
    | none => exact ⟨z0, fun q h => by cases h⟩
    | some q =>
      obtain ⟨z, hz⟩ := one k q hq
      exact ⟨z, fun q' h => by cases h; exact hz⟩
  obtain ⟨f, hf⟩ := Classical.axiomOfChoice h0
  exact ⟨fun k => (f k).1, fun k => (f k).2, fun k q hq => hf k q hq, fun k q h => by simp at h⟩
theorem whole_start {p : Program} {e : Env} {s : State} {m : MethodId} {below : List Frame} {meth : Method} {c : Code} (l : Launch) (hflags : l.flags = flags0) {b L : Nat} {xs : Nat → Int32} (hL : L ≤ 2560) (C0 : lw_At p s m meth c b L xs) : W p l e room_1 s m #[Value.ref b] below meth c s.heap [] 0 0 (lw_Z below #[Value.ref b] s) (entryFrame m ([Value.ref b] : List Value).toArray 4) := by
  obtain ⟨ex, z, hE, hex, h01⟩ := zExt_start C0
  obtain ⟨hx, hb, hrt, hml, hown, hts, hX, hbl, hlk, hgv⟩ := C0
  obtain ⟨N, n, M', hN, hrun, hM1, hM2⟩ := law_run (X := (L, xs, z)) hL rfl h01
  have hW : ∀ w ∈ zW, w.before #[Value.ref b] s = true := fun w hw => hts w (List.mem_filter.mp hw).1
  obtain ⟨dC, dI, hK⟩ := zK_start hW
  have C : zCtx p s m #[Value.ref b] meth c room_1 zlaw.2.1 s.heap.size ex (L, xs, z) zlaw.2.2.2.2.2.1 (zlaw.2.2.2.2.2.2.1 == 2) zlaw.2.2.1 0 := ⟨hx, hb, hown, Nat.le_of_ble_eq_true rfl, hW, hE, fun q => absurd q (by decide), hml, Nat.le_of_ble_eq_true rfl, Nat.le_of_ble_eq_true rfl, rfl⟩
  have hav : zcs (zad s.heap.size ex) [.ref 1000016] = [Value.ref b] := by
    show [Value.ref (zad s.heap.size ex (1000000 + 16))] = _
    rw [zad_out, hex]
  have hl := lv_entry ([Value.ref b]) (n := 4) (Nat.le_of_ble_eq_true rfl)
  rw [← hav, ← zcl_args, hav] at hl
  rw [lg_entry_eq]
  refine z_run (d := 400) (s0 := 0) (c0 := 0) C zmt_ok (fun a av M v M1 h => zev_ok zmt_ok zovT_ok _ _ _ _ _ _ _ h) (fun a av M v M1 h => zev_mono (zovT_ok (l := l) (base := s.heap.size) (ex := ex) (dC := dC) (dI := dI)) _ _ _ _ _ _ _ h) (Nat.le_of_ble_eq_true rfl) (Nat.le_of_ble_eq_true rfl) zlaw_dec (by rw [hM1]; exact Nat.le_of_ble_eq_true rfl) (Nat.le_trans hM2 (Nat.le_of_ble_eq_true rfl)) ?_ n 0 _ _ zM0 hrun _ s.heap [] 0 0 rfl rfl hl ⟨Nat.zero_le _, Nat.le_refl _, va_S.rf, fun k n f h => (by cases h), [], [], ⟨rfl, fun k h => absurd h (Nat.not_lt_zero k)⟩, fun k q h => by simp at h, hK⟩
  intro pc len i st L' H locs cells slots hdg hk hret hcc hss hM
  refine va_forget (fun q hq => hM.2.2.1.2.2 q hq) ?_
  refine W.widen (k := 600000) (n := 7302250) (by omega) (by omega) ?_
  cases i <;> simp only [zret, reduceCtorEq] at hret
  case return_ =>
    split at hret <;> cases hret
  case ireturn =>
    have hk : len = 1 := by simpa [zlok] using hk
    subst hk
    split at hret
    · split at hret
      · cases hret
        exact lw_ret hx hb hrt hlk hdg
      · cases hret
    · cases hret
  case lreturn =>
    split at hret <;> cases hret
  case areturn =>
    split at hret <;> cases hret
