/-! THE ROWS OF THE EVALUATOR, 0: what stays within the frame -/
def zcv (ad : Nat → Nat) (v : Value) : Value := match v with
  | .ref a => .ref (ad a)
  | w => w
def zcl (ad : Nat → Nat) (ls : zL) : zL := ls.map fun q => (q.1, zcv ad q.2)
def zcs (ad : Nat → Nat) (st : List Value) : List Value := st.map (zcv ad)
theorem zcv_cat (ad : Nat → Nat) (v : Value) : (zcv ad v).category = v.category := by cases v <;> rfl
theorem zcs_cons (ad : Nat → Nat) (v : Value) (st : List Value) : zcs ad (v :: st) = zcv ad v :: zcs ad st := rfl
theorem z_at {ad : Nat → Nat} {L : Array Slot} {nL : Nat} {ls : zL} (hl : lv_has L nL (zcl ad ls)) {i : Nat} {v : Value} (h : zget ls i = some v) : L[i]? = some (.val (zcv ad v)) := by
  unfold zget at h
  cases hf : ls.find? (fun q => q.1 == i) with
  | none => rw [hf] at h; cases h
  | some q =>
    rw [hf] at h
    have hv : q.2 = v := Option.some.inj h
    have hm := List.mem_of_find?_eq_some hf
    have hi : q.1 = i := by simpa using List.find?_some hf
    have := hl.2.2 (q.1, zcv ad q.2) (List.mem_map.mpr ⟨q, hm, rfl⟩)
    rw [hv, hi] at this
    exact this
theorem z_mem {ad : Nat → Nat} {ls : zL} {i : Nat} {v : Value} (h : zget ls i = some v) : ∃ k : Nat, (zcl ad ls)[k]? = some (i, zcv ad v) := by
  unfold zget at h
  cases hf : ls.find? (fun q => q.1 == i) with
  | none => rw [hf] at h; cases h
  | some q =>
    rw [hf] at h
    have hv : q.2 = v := Option.some.inj h
    have hm := List.mem_of_find?_eq_some hf
    have hi : q.1 = i := by simpa using List.find?_some hf
    subst hv
    subst hi
    have h2 : (q.1, zcv ad q.2) ∈ zcl ad ls := List.mem_map.mpr ⟨q, hm, rfl⟩
    exact List.getElem?_of_mem h2
theorem zrep_mem {p : Nat × Value} {i : Nat} {v : Value} : ∀ (l : zL), p ∈ zrep l i v → p = (i, v) ∨ (p ∈ l ∧ ¬ p.1 = i) := by
  intro l
  induction l with
  | nil => intro h; exact Or.inl (by simpa [zrep] using h)
  | cons q l ih =>
    intro h
    unfold zrep at h
    cases hq : (q.1 == i) with
    | true =>
      rw [hq] at h
      rcases List.mem_cons.mp h with h | h
      · exact Or.inl h
      · obtain ⟨h1, h2⟩ := List.mem_filter.mp h
        exact Or.inr ⟨List.mem_cons_of_mem _ h1, by simpa using h2⟩
    | false =>
      rw [hq] at h
      rcases List.mem_cons.mp h with h | h
      · subst h
        exact Or.inr ⟨List.mem_cons_self, by simpa using hq⟩
      · rcases ih h with h | ⟨h1, h2⟩
        · exact Or.inl h
        · exact Or.inr ⟨List.mem_cons_of_mem _ h1, h2⟩
theorem z_put1 {ad : Nat → Nat} {L : Array Slot} {nL : Nat} (ls : zL) (i : Nat) (v : Value) (h : lv_has L nL ((i, zcv ad v) :: (zcl ad ls).filter (fun q => !(q.1 == i) && !(q.1 + 1 == i && q.2.category == 2)))) : lv_has L nL (zcl ad (zput1 ls i v)) := by
  refine ⟨h.1, h.2.1, fun q hq => h.2.2 q ?_⟩
  obtain ⟨p, hp, rfl⟩ := List.mem_map.mp hq
  rcases zrep_mem _ hp with rfl | ⟨h1, h2⟩
  · exact List.mem_cons_self
  · obtain ⟨h3, h4⟩ := List.mem_filter.mp h1
    refine List.mem_cons_of_mem _ (List.mem_filter.mpr ⟨List.mem_map.mpr ⟨p, h3, rfl⟩, ?_⟩)
    simp only [zcv_cat]
    simp only [h4, Bool.and_true, Bool.not_eq_true', beq_eq_false_iff_ne, ne_eq]
    exact h2
theorem z_put2 {ad : Nat → Nat} {L : Array Slot} {nL : Nat} (ls : zL) (i : Nat) (v : Value) (h : lv_has L nL ((i, zcv ad v) :: (zcl ad ls).filter (fun q => !(q.1 == i) && (!(q.1 == i + 1) && !(q.1 + 1 == i && q.2.category == 2))))) : lv_has L nL (zcl ad (zput2 ls i v)) := by
  refine ⟨h.1, h.2.1, fun q hq => h.2.2 q ?_⟩
  obtain ⟨p, hp, rfl⟩ := List.mem_map.mp hq
  rcases zrep_mem _ hp with rfl | ⟨h1, h2⟩
  · exact List.mem_cons_self
  · obtain ⟨h3, h4⟩ := List.mem_filter.mp h1
    refine List.mem_cons_of_mem _ (List.mem_filter.mpr ⟨List.mem_map.mpr ⟨p, h3, rfl⟩, ?_⟩)
    simp only [zcv_cat]
    simp only [h4, Bool.and_true, Bool.not_eq_true', beq_eq_false_iff_ne, ne_eq]
    exact h2
theorem z_jmp {pc t : Nat} {off : Int} (h : zjmp pc off = some t) : (pc : Int) + off = (t : Int) := by
  unfold zjmp at h
  split at h
  · cases h
  · have := Option.some.inj h
    omega
theorem z_cI {c : ClassFile.Cond} {x y : Int32} : zcI c x y = true ↔ (match c with | .eq => x = y | .ne => ¬ x = y | .lt => x < y | .ge => y ≤ x | .gt => y < x | .le => x ≤ y) := by
  cases c <;> simp [zcI]
section ZS0
variable {p : Program} {l : Launch} {e : Env} {R : Room} {s : State} {m : MethodId} {args : Array Value} {below : List Frame} {meth : Method} {c : Code} {H : Heap} {locs : List Loc} {cells slots : Nat} {Q : State → Prop} {cc : ByteArray} {ad : Nat → Nat} {pc nL len pc' : Nat} {i : Instr} {ls ls' : zL} {st st' : List Value} {L : Array Slot}
theorem z_icmp (hx : p.tables.exec = Jvm.exec) (hb : c.code = cc) {k : ClassFile.Cond} {x y : Int32} {off : Int} {t : Nat} {rest : List Value} (hd : decode cc pc = .ok (.if_icmp k off, 3)) (ht : (pc : Int) + off = (t : Int)) (kk : W p l e R s m args below meth c H locs cells slots Q (F0 m (if zcI k x y then t else pc + 3) L rest)) : W p l e R s m args below meth c H locs cells slots Q (F0 m pc L (.int y :: .int x :: rest)) := by
  cases k
  · exact lv_icmp_eq hx hb hd ht (fun h => by rw [if_pos (z_cI.mpr h)] at kk; exact kk) (fun h => by rw [if_neg (fun q => h (z_cI.mp q))] at kk; exact kk)
  · exact lv_icmp_ne hx hb hd ht (fun h => by rw [if_pos (z_cI.mpr h)] at kk; exact kk) (fun h => by rw [if_neg (show ¬ zcI .ne x y = true by simp [zcI, h])] at kk; exact kk)
  · exact lv_icmp_lt hx hb hd ht (fun h => by rw [if_pos (z_cI.mpr h)] at kk; exact kk) (fun h => by rw [if_neg (fun q => h (z_cI.mp q))] at kk; exact kk)
  · exact lv_icmp_ge hx hb hd ht (fun h => by rw [if_pos (z_cI.mpr h)] at kk; exact kk) (fun h => by rw [if_neg (fun q => h (z_cI.mp q))] at kk; exact kk)
  · exact lv_icmp_gt hx hb hd ht (fun h => by rw [if_pos (z_cI.mpr h)] at kk; exact kk) (fun h => by rw [if_neg (fun q => h (z_cI.mp q))] at kk; exact kk)
  · exact lv_icmp_le hx hb hd ht (fun h => by rw [if_pos (z_cI.mpr h)] at kk; exact kk) (fun h => by rw [if_neg (fun q => h (z_cI.mp q))] at kk; exact kk)
theorem z_if (hx : p.tables.exec = Jvm.exec) (hb : c.code = cc) {k : ClassFile.Cond} {x : Int32} {off : Int} {t : Nat} {rest : List Value} (hd : decode cc pc = .ok (.ifCond k off, 3)) (ht : (pc : Int) + off = (t : Int)) (kk : W p l e R s m args below meth c H locs cells slots Q (F0 m (if zcI k x 0 then t else pc + 3) L rest)) : W p l e R s m args below meth c H locs cells slots Q (F0 m pc L (.int x :: rest)) := by
  cases k
  · exact lv_if_eq hx hb hd ht (fun h => by rw [if_pos (z_cI.mpr h)] at kk; exact kk) (fun h => by rw [if_neg (fun q => h (z_cI.mp q))] at kk; exact kk)
  · exact lv_if_ne hx hb hd ht (fun h => by rw [if_pos (z_cI.mpr h)] at kk; exact kk) (fun h => by rw [if_neg (show ¬ zcI .ne x 0 = true by simp [zcI, h])] at kk; exact kk)
  · exact lv_if_lt hx hb hd ht (fun h => by rw [if_pos (z_cI.mpr h)] at kk; exact kk) (fun h => by rw [if_neg (fun q => h (z_cI.mp q))] at kk; exact kk)
  · exact lv_if_ge hx hb hd ht (fun h => by rw [if_pos (z_cI.mpr h)] at kk; exact kk) (fun h => by rw [if_neg (fun q => h (z_cI.mp q))] at kk; exact kk)
  · exact lv_if_gt hx hb hd ht (fun h => by rw [if_pos (z_cI.mpr h)] at kk; exact kk) (fun h => by rw [if_neg (fun q => h (z_cI.mp q))] at kk; exact kk)
  · exact lv_if_le hx hb hd ht (fun h => by rw [if_pos (z_cI.mpr h)] at kk; exact kk) (fun h => by rw [if_neg (fun q => h (z_cI.mp q))] at kk; exact kk)
theorem z_bI (hx : p.tables.exec = Jvm.exec) (hb : c.code = cc) {f : Int32 → Int32 → Option Int32} (hi : zbI i = some f) {x y v : Int32} (hf : f x y = some v) {rest : List Value} (hd : decode cc pc = .ok (i, 1)) (kk : W p l e R s m args below meth c H locs cells slots Q (F0 m (pc + 1) L (.int v :: rest))) : W p l e R s m args below meth c H locs cells slots Q (F0 m pc L (.int y :: .int x :: rest)) := by
  cases i <;> simp only [zbI, Option.some.injEq, reduceCtorEq] at hi <;> subst hi
  case iadd => cases hf; exact lv_iadd hx hb hd kk
  case isub => cases hf; exact lv_isub hx hb hd kk
  case imul => cases hf; exact lv_imul hx hb hd kk
  case iand => cases hf; exact lv_iand hx hb hd kk
  case ior => cases hf; exact lv_ior hx hb hd kk
  case ixor => cases hf; exact lv_ixor hx hb hd kk
  case idiv =>
    by_cases hy : y = 0
    · simp [hy] at hf
    · simp only [hy, if_false, Option.some.injEq] at hf
      subst hf
      exact lv_idiv hx hb hd hy kk
  case irem =>
    by_cases hy : y = 0
    · simp [hy] at hf
    · simp only [hy, if_false, Option.some.injEq] at hf
      subst hf
      exact lv_irem hx hb hd hy kk
  case ishl => cases hf; exact lv_ishl hx hb hd kk
  case ishr => cases hf; exact lv_ishr hx hb hd kk
  case iushr => cases hf; exact lv_iushr hx hb hd rfl kk
theorem z_uI (hx : p.tables.exec = Jvm.exec) (hb : c.code = cc) {f : Int32 → Int32} (hi : zuI i = some f) {x : Int32} {rest : List Value} (hd : decode cc pc = .ok (i, 1)) (kk : W p l e R s m args below meth c H locs cells slots Q (F0 m (pc + 1) L (.int (f x) :: rest))) : W p l e R s m args below meth c H locs cells slots Q (F0 m pc L (.int x :: rest)) := by
  cases i <;> simp only [zuI, Option.some.injEq, reduceCtorEq] at hi <;> subst hi
  case ineg => exact lv_ineg hx hb hd kk
  case i2b => exact lv_i2b hx hb hd rfl kk
  case i2c => exact lv_i2c hx hb hd rfl kk
theorem z_bL (hx : p.tables.exec = Jvm.exec) (hb : c.code = cc) {f : Int64 → Int64 → Option Int64} (hi : zbL i = some f) {x y v : Int64} (hf : f x y = some v) {rest : List Value} (hd : decode cc pc = .ok (i, 1)) (kk : W p l e R s m args below meth c H locs cells slots Q (F0 m (pc + 1) L (.long v :: rest))) : W p l e R s m args below meth c H locs cells slots Q (F0 m pc L (.long y :: .long x :: rest)) := by
  cases i <;> simp only [zbL, Option.some.injEq, reduceCtorEq] at hi <;> subst hi
  case ladd => cases hf; exact lv_ladd hx hb hd kk
  case lsub => cases hf; exact lv_lsub hx hb hd kk
  case lmul => cases hf; exact lv_lmul hx hb hd kk
  case land => cases hf; exact lv_land hx hb hd kk
  case lor => cases hf; exact lv_lor hx hb hd kk
  case lxor => cases hf; exact lv_lxor hx hb hd kk
  case ldiv =>
    by_cases hy : y = 0
    · simp [hy] at hf
    · simp only [hy, if_false, Option.some.injEq] at hf
      subst hf
      exact lv_ldiv hx hb hd hy kk
  case lrem =>
    by_cases hy : y = 0
    · simp [hy] at hf
    · simp only [hy, if_false, Option.some.injEq] at hf
      subst hf
      exact lv_lrem hx hb hd hy kk
theorem z_sL (hx : p.tables.exec = Jvm.exec) (hb : c.code = cc) {f : Int64 → Int32 → Int64} (hi : zsL i = some f) {x : Int64} {y : Int32} {rest : List Value} (hd : decode cc pc = .ok (i, 1)) (kk : W p l e R s m args below meth c H locs cells slots Q (F0 m (pc + 1) L (.long (f x y) :: rest))) : W p l e R s m args below meth c H locs cells slots Q (F0 m pc L (.int y :: .long x :: rest)) := by
  cases i <;> simp only [zsL, Option.some.injEq, reduceCtorEq] at hi <;> subst hi
  case lshl => exact lv_lshl hx hb hd rfl kk
  case lshr => exact lv_lshr hx hb hd rfl kk
  case lushr => exact lv_lushr hx hb hd rfl kk
/-- the fallback of zs0: the operations of one byte that compute -/
theorem z_op (hx : p.tables.exec = Jvm.exec) (hb : c.code = cc) (hd : decode cc pc = .ok (i, 1)) (hl : lv_has L nL (zcl ad ls))
    (h : (match zbI i with
    | some f => (match st with
      | .int y :: .int x :: r => (match f x y with
        | some v => some (pc + 1, ls, .int v :: r)
        | none => none)
      | _ => none)
    | none => match zuI i with
      | some f => (match st with
        | .int x :: r => some (pc + 1, ls, .int (f x) :: r)
        | _ => none)
      | none => match zbL i with
        | some f => (match st with
          | .long y :: .long x :: r => (match f x y with
            | some v => some (pc + 1, ls, .long v :: r)
            | none => none)
          | _ => none)
        | none => match zsL i with
          | some f => (match st with
            | .int y :: .long x :: r => some (pc + 1, ls, .long (f x y) :: r)
            | _ => none)
          | none => none : Option (Nat × zL × List Value)) = some (pc', ls', st'))
    (kk : ∀ L', lv_has L' nL (zcl ad ls') → W p l e R s m args below meth c H locs cells slots Q (F0 m pc' L' (zcs ad st'))) : W p l e R s m args below meth c H locs cells slots Q (F0 m pc L (zcs ad st)) := by
  split at h
  · rename_i f hf
    split at h
    · rename_i y x r
      split at h
      · rename_i v hv
        cases h
        exact z_bI hx hb hf hv hd (kk L hl)
      · cases h
    · cases h
  · split at h
    · rename_i f hf
      split at h
      · cases h
        exact z_uI hx hb hf hd (kk L hl)
      · cases h
    · split at h
      · rename_i f hf
        split at h
        · rename_i y x r
          split at h
          · rename_i v hv
            cases h
            exact z_bL hx hb hf hv hd (kk L hl)
          · cases h
        · cases h
      · split at h
        · rename_i f hf
          split at h
          · cases h
            exact z_sL hx hb hf hd (kk L hl)
          · cases h
        · cases h
set_option maxHeartbeats 4000000 in
theorem z_s0 (hx : p.tables.exec = Jvm.exec) (hb : c.code = cc) (hd : decode cc pc = .ok (i, len)) (hk : zlok i len = true) (h : zs0 pc ls st nL i len = some (pc', ls', st')) (hl : lv_has L nL (zcl ad ls)) (kk : ∀ L', lv_has L' nL (zcl ad ls') → W p l e R s m args below meth c H locs cells slots Q (F0 m pc' L' (zcs ad st'))) : W p l e R s m args below meth c H locs cells slots Q (F0 m pc L (zcs ad st)) := by
  cases i
  case iconst n =>
    have hk : len = 1 := by simpa [zlok] using hk
    subst hk
    simp only [zs0, Option.some.injEq, Prod.mk.injEq] at h
    obtain ⟨rfl, rfl, rfl⟩ := h
    exact lv_iconst hx hb hd rfl (kk L hl)
  case bipush n =>
    have hk : len = 2 := by simpa [zlok] using hk
    subst hk
    simp only [zs0, Option.some.injEq, Prod.mk.injEq] at h
    obtain ⟨rfl, rfl, rfl⟩ := h
    exact lv_bipush hx hb hd rfl (kk L hl)
  case sipush n =>
    have hk : len = 3 := by simpa [zlok] using hk
    subst hk
    simp only [zs0, Option.some.injEq, Prod.mk.injEq] at h
    obtain ⟨rfl, rfl, rfl⟩ := h
    exact lv_sipush hx hb hd rfl (kk L hl)
  case lconst n =>
    have hk : len = 1 := by simpa [zlok] using hk
    subst hk
    simp only [zs0, Option.some.injEq, Prod.mk.injEq] at h
    obtain ⟨rfl, rfl, rfl⟩ := h
    exact lv_lconst hx hb hd rfl (kk L hl)
  case aconst_null =>
    have hk : len = 1 := by simpa [zlok] using hk
    subst hk
    simp only [zs0, Option.some.injEq, Prod.mk.injEq] at h
    obtain ⟨rfl, rfl, rfl⟩ := h
    exact lv_null hx hb hd (kk L hl)
  case iload_n k =>
    have hk : len = 1 := by simpa [zlok] using hk
    subst hk
    simp only [zs0] at h
    split at h
    · rename_i x hg
      cases h
      exact lv_iload_n hx hb hd rfl (z_at hl hg) (kk L hl)
    · cases h
  case iload k =>
    have hk : len = 2 := by simpa [zlok] using hk
    subst hk
    simp only [zs0] at h
    split at h
    · rename_i x hg
      cases h
      exact lv_iload hx hb hd (z_at hl hg) (kk L hl)
    · cases h
  case lload_n k =>
    have hk : len = 1 := by simpa [zlok] using hk
    subst hk
    simp only [zs0] at h
    split at h
    · rename_i x hg
      cases h
      exact lv_lload_n hx hb hd rfl (z_at hl hg) (kk L hl)
    · cases h
  case lload k =>
    have hk : len = 2 := by simpa [zlok] using hk
    subst hk
    simp only [zs0] at h
    split at h
    · rename_i x hg
      cases h
      exact lv_lload hx hb hd (z_at hl hg) (kk L hl)
    · cases h
  case aload_n k =>
    have hk : len = 1 := by simpa [zlok] using hk
    subst hk
    simp only [zs0] at h
    split at h
    · rename_i x hg
      cases h
      exact lv_aload_n hx hb hd rfl (z_at hl hg) (kk L hl)
    · rename_i hg
      cases h
      exact lv_aload_nN hx hb hd rfl (z_at hl hg) (kk L hl)
    · cases h
  case aload k =>
    have hk : len = 2 := by simpa [zlok] using hk
    subst hk
    simp only [zs0] at h
    split at h
    · rename_i x hg
      cases h
      exact lv_aload hx hb hd (z_at hl hg) (kk L hl)
    · rename_i hg
      cases h
      exact lv_aloadN hx hb hd (z_at hl hg) (kk L hl)
    · cases h
  case istore_n k =>
    have hk : len = 1 := by simpa [zlok] using hk
    subst hk
    simp only [zs0] at h
    split at h
    · rename_i x r
      split at h
      · rename_i hn
        cases h
        exact lv_istore_n hx hb hd rfl hl hn rfl (fun L' h' => kk L' (z_put1 ls (k : Nat) (.int x) h'))
      · cases h
    · cases h
  case istore k =>
    have hk : len = 2 := by simpa [zlok] using hk
    subst hk
    simp only [zs0] at h
    split at h
    · rename_i x r
      split at h
      · rename_i hn
        cases h
        exact lv_istore hx hb hd hl hn rfl (fun L' h' => kk L' (z_put1 ls k (.int x) h'))
      · cases h
    · cases h
  case lstore_n k =>
    have hk : len = 1 := by simpa [zlok] using hk
    subst hk
    simp only [zs0] at h
    split at h
    · rename_i x r
      split at h
      · rename_i hn
        cases h
        exact lv_lstore_n hx hb hd rfl hl hn rfl (fun L' h' => kk L' (z_put2 ls (k : Nat) (.long x) h'))
      · cases h
    · cases h
  case lstore k =>
    have hk : len = 2 := by simpa [zlok] using hk
    subst hk
    simp only [zs0] at h
    split at h
    · rename_i x r
      split at h
      · rename_i hn
        cases h
        exact lv_lstore hx hb hd hl hn rfl (fun L' h' => kk L' (z_put2 ls k (.long x) h'))
      · cases h
    · cases h
  case astore_n k =>
    have hk : len = 1 := by simpa [zlok] using hk
    subst hk
    simp only [zs0] at h
    split at h
    · rename_i x r
      split at h
      · rename_i hn
        cases h
        exact lv_astore_n hx hb hd rfl hl hn rfl (fun L' h' => kk L' (z_put1 ls (k : Nat) (.ref x) h'))
      · cases h
    · rename_i r
      split at h
      · rename_i hn
        cases h
        exact lv_astore_nN hx hb hd rfl hl hn rfl (fun L' h' => kk L' (z_put1 ls (k : Nat) .null h'))
      · cases h
    · cases h
  case astore k =>
    have hk : len = 2 := by simpa [zlok] using hk
    subst hk
    simp only [zs0] at h
    split at h
    · rename_i x r
      split at h
      · rename_i hn
        cases h
        exact lv_astore hx hb hd hl hn rfl (fun L' h' => kk L' (z_put1 ls k (.ref x) h'))
      · cases h
    · rename_i r
      split at h
      · rename_i hn
        cases h
        exact lv_astoreN hx hb hd hl hn rfl (fun L' h' => kk L' (z_put1 ls k .null h'))
      · cases h
    · cases h
  case iinc k n =>
    have hk : len = 3 := by simpa [zlok] using hk
    subst hk
    simp only [zs0] at h
    split at h
    · rename_i x hg
      split at h
      · rename_i hn
        cases h
        obtain ⟨j, hj⟩ := z_mem (ad := ad) hg
        exact lv_iinc hx hb hd hl hj rfl hn rfl (fun L' h' => kk L' (z_put1 ls k (.int (x + Int32.ofInt n)) h'))
      · cases h
    · cases h
  case dup =>
    have hk : len = 1 := by simpa [zlok] using hk
    subst hk
    simp only [zs0] at h
    split at h
    · split at h
      · rename_i hv
        cases h
        exact lv_dup hx hb hd ((zcv_cat _ _).trans hv) (kk L hl)
      · cases h
    · cases h
  case pop =>
    have hk : len = 1 := by simpa [zlok] using hk
    subst hk
    simp only [zs0] at h
    split at h
    · split at h
      · rename_i hv
        cases h
        exact lv_pop hx hb hd ((zcv_cat _ _).trans hv) (kk L hl)
      · cases h
    · cases h
  case pop2 =>
    have hk : len = 1 := by simpa [zlok] using hk
    subst hk
    simp only [zs0] at h
    split at h
    · split at h
      · rename_i hv
        cases h
        exact lv_pop2_2 hx hb hd ((zcv_cat _ _).trans hv) (kk L hl)
      · cases h
    · cases h
  case dup_x1 =>
    have hk : len = 1 := by simpa [zlok] using hk
    subst hk
    simp only [zs0] at h
    split at h
    · split at h
      · rename_i hv
        cases h
        exact lv_dup_x1 hx hb hd ((zcv_cat _ _).trans hv.1) ((zcv_cat _ _).trans hv.2) (kk L hl)
      · cases h
    · cases h
  case dup2 =>
    have hk : len = 1 := by simpa [zlok] using hk
    subst hk
    simp only [zs0] at h
    split at h
    · split at h
      · rename_i hv
        cases h
        exact lv_dup2_11 hx hb hd ((zcv_cat _ _).trans hv.1) ((zcv_cat _ _).trans hv.2) (kk L hl)
      · split at h
        · rename_i hv
          cases h
          exact lv_dup2_2 hx hb hd ((zcv_cat _ _).trans hv) (kk L hl)
        · cases h
    · cases h
  case i2l =>
    have hk : len = 1 := by simpa [zlok] using hk
    subst hk
    simp only [zs0] at h
    split at h
    · cases h
      exact lv_i2l hx hb hd rfl (kk L hl)
    · cases h
  case l2i =>
    have hk : len = 1 := by simpa [zlok] using hk
    subst hk
    simp only [zs0] at h
    split at h
    · cases h
      exact lv_l2i hx hb hd rfl (kk L hl)
    · cases h
  case lneg =>
    have hk : len = 1 := by simpa [zlok] using hk
    subst hk
    simp only [zs0] at h
    split at h
    · cases h
      exact lv_lneg hx hb hd (kk L hl)
    · cases h
  case lcmp =>
    have hk : len = 1 := by simpa [zlok] using hk
    subst hk
    simp only [zs0] at h
    split at h
    · cases h
      exact W.lcmp hx hb hd (kk L hl)
    · cases h
  case goto off =>
    have hk : len = 3 := by simpa [zlok] using hk
    subst hk
    simp only [zs0] at h
    split at h
    · rename_i t ht
      cases h
      exact lv_goto hx hb hd (z_jmp ht) (kk L hl)
    · cases h
  case ifCond k off =>
    have hk : len = 3 := by simpa [zlok] using hk
    subst hk
    simp only [zs0] at h
    split at h
    · split at h
      · rename_i t ht
        cases h
        exact z_if hx hb hd (z_jmp ht) (kk L hl)
      · cases h
    · cases h
  case if_icmp k off =>
    have hk : len = 3 := by simpa [zlok] using hk
    subst hk
    simp only [zs0] at h
    split at h
    · split at h
      · rename_i t ht
        cases h
        exact z_icmp hx hb hd (z_jmp ht) (kk L hl)
      · cases h
    · cases h
  case ifnull off =>
    have hk : len = 3 := by simpa [zlok] using hk
    subst hk
    simp only [zs0] at h
    split at h
    · cases h
      exact lv_ifnull hx hb hd (kk L hl)
    · split at h
      · rename_i t ht
        cases h
        exact lv_ifnullN hx hb hd (z_jmp ht) (kk L hl)
      · cases h
    · cases h
  case ifnonnull off =>
    have hk : len = 3 := by simpa [zlok] using hk
    subst hk
    simp only [zs0] at h
    split at h
    · cases h
      exact lv_ifnonnullN hx hb hd (kk L hl)
    · split at h
      · rename_i t ht
        cases h
        exact lv_ifnonnull hx hb hd (z_jmp ht) (kk L hl)
      · cases h
    · cases h
  case tableswitch dflt lo hi offs =>
    simp only [zs0] at h
    split at h
    · rename_i x r
      split at h
      · rename_i hc
        split at h
        · rename_i t ht
          cases h
          exact lv_tableOut hx hb hd hc (z_jmp ht) (kk L hl)
        · cases h
      · rename_i hc
        split at h
        · rename_i off ho
          split at h
          · rename_i t ht
            cases h
            exact lv_tableIn hx hb hd (fun q => hc (Or.inl q)) (fun q => hc (Or.inr q)) ho (z_jmp ht) (kk L hl)
          · cases h
        · cases h
    · cases h
  case lookupswitch dflt ps =>
    simp only [zs0] at h
    split at h
    · rename_i x r
      split at h
      · rename_i hc
        split at h
        · rename_i t ht
          cases h
          exact lv_lookup hx hb hd hc rfl (z_jmp ht) (kk L hl)
        · cases h
      · cases h
    · cases h
  case iadd =>
    have hk : len = 1 := by simpa [zlok] using hk
    subst hk
    exact z_op hx hb hd hl h kk
  case isub =>
    have hk : len = 1 := by simpa [zlok] using hk
    subst hk
    exact z_op hx hb hd hl h kk
  case imul =>
    have hk : len = 1 := by simpa [zlok] using hk
    subst hk
    exact z_op hx hb hd hl h kk
  case iand =>
    have hk : len = 1 := by simpa [zlok] using hk
    subst hk
    exact z_op hx hb hd hl h kk
  case ior =>
    have hk : len = 1 := by simpa [zlok] using hk
    subst hk
    exact z_op hx hb hd hl h kk
  case ixor =>
    have hk : len = 1 := by simpa [zlok] using hk
    subst hk
    exact z_op hx hb hd hl h kk
  case idiv =>
    have hk : len = 1 := by simpa [zlok] using hk
    subst hk
    exact z_op hx hb hd hl h kk
  case irem =>
    have hk : len = 1 := by simpa [zlok] using hk
    subst hk
    exact z_op hx hb hd hl h kk
  case ishl =>
    have hk : len = 1 := by simpa [zlok] using hk
    subst hk
    exact z_op hx hb hd hl h kk
  case ishr =>
    have hk : len = 1 := by simpa [zlok] using hk
    subst hk
    exact z_op hx hb hd hl h kk
  case iushr =>
    have hk : len = 1 := by simpa [zlok] using hk
    subst hk
    exact z_op hx hb hd hl h kk
  case ineg =>
    have hk : len = 1 := by simpa [zlok] using hk
    subst hk
    exact z_op hx hb hd hl h kk
  case i2b =>
    have hk : len = 1 := by simpa [zlok] using hk
    subst hk
    exact z_op hx hb hd hl h kk
  case i2c =>
    have hk : len = 1 := by simpa [zlok] using hk
    subst hk
    exact z_op hx hb hd hl h kk
  case ladd =>
    have hk : len = 1 := by simpa [zlok] using hk
    subst hk
    exact z_op hx hb hd hl h kk
  case lsub =>
    have hk : len = 1 := by simpa [zlok] using hk
    subst hk
    exact z_op hx hb hd hl h kk
  case lmul =>
    have hk : len = 1 := by simpa [zlok] using hk
    subst hk
    exact z_op hx hb hd hl h kk
  case land =>
    have hk : len = 1 := by simpa [zlok] using hk
    subst hk
    exact z_op hx hb hd hl h kk
  case lor =>
    have hk : len = 1 := by simpa [zlok] using hk
    subst hk
    exact z_op hx hb hd hl h kk
  case lxor =>
    have hk : len = 1 := by simpa [zlok] using hk
    subst hk
    exact z_op hx hb hd hl h kk
  case ldiv =>
    have hk : len = 1 := by simpa [zlok] using hk
    subst hk
    exact z_op hx hb hd hl h kk
  case lrem =>
    have hk : len = 1 := by simpa [zlok] using hk
    subst hk
    exact z_op hx hb hd hl h kk
  case lshl =>
    have hk : len = 1 := by simpa [zlok] using hk
    subst hk
    exact z_op hx hb hd hl h kk
  case lshr =>
    have hk : len = 1 := by simpa [zlok] using hk
    subst hk
    exact z_op hx hb hd hl h kk
  case lushr =>
    have hk : len = 1 := by simpa [zlok] using hk
    subst hk
    exact z_op hx hb hd hl h kk
  all_goals (exfalso; revert h; simp [zs0, zbI, zuI, zbL, zsL])
end ZS0
