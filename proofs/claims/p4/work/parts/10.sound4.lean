/-! THE ROWS OF THE EVALUATOR, 4: steps, runs, whole methods -/
theorem zset_mono {M : zM} {a : Nat} {e : zE} : M.1 ≤ (zset M a e).1 ∧ M.2.1 ≤ (zset M a e).2.1 := ⟨Nat.le_refl _, Nat.le_refl _⟩
theorem zpush_mono {M : zM} {e : zE} : M.1 ≤ (zpush M e).1 ∧ M.2.1 ≤ (zpush M e).2.1 := ⟨Nat.le_succ _, Nat.le_add_right _ _⟩
set_option maxHeartbeats 4000000 in
theorem zs1_mono {X : zX} {own : Nat} {ini : Bool} {pc : Nat} {ls : zL} {st : List Value} {M : zM} {i : Instr} {pc' : Nat} {ls' : zL} {st' : List Value} {M' : zM} (h : zs1 X own ini pc ls st M i = some (pc', ls', st', M')) : M.1 ≤ M'.1 ∧ M.2.1 ≤ M'.2.1 := by
  cases i <;> simp only [zs1, reduceCtorEq] at h
  all_goals (repeat' split at h)
  all_goals first
    | (cases h; done)
    | (cases h; exact ⟨Nat.le_refl _, Nat.le_refl _⟩)
    | (cases h; exact zset_mono)
    | (cases h; exact zpush_mono)
theorem zs3_mono {X : zX} {own : Nat} {pc : Nat} {ls : zL} {st : List Value} {M : zM} {i : Instr} {pc' : Nat} {ls' : zL} {st' : List Value} {M' : zM} (h : zs3 X own pc ls st M i = some (pc', ls', st', M')) : M.1 ≤ M'.1 ∧ M.2.1 ≤ M'.2.1 := by
  cases i <;> simp only [zs3, reduceCtorEq] at h
  all_goals (repeat' split at h)
  all_goals first
    | (cases h; done)
    | (cases h; exact ⟨Nat.le_refl _, Nat.le_refl _⟩)
set_option maxHeartbeats 4000000 in
theorem zs2_mono {mt : Nat → Option zMe} {call : Nat → List Value → zM → Option (Option Value × zM)} (hmono : ∀ a av M v M', call a av M = some (v, M') → M.1 ≤ M'.1 ∧ M.2.1 ≤ M'.2.1) {own : Nat} {pc : Nat} {ls : zL} {st : List Value} {M : zM} {i : Instr} {pc' : Nat} {ls' : zL} {st' : List Value} {M' : zM} (h : zs2 mt call own pc ls st M i = some (pc', ls', st', M')) : M.1 ≤ M'.1 ∧ M.2.1 ≤ M'.2.1 := by
  cases i <;> simp only [zs2, reduceCtorEq] at h
  all_goals (repeat' split at h)
  all_goals first
    | (cases h; done)
    | (rename_i hc; cases h; exact hmono _ _ _ _ _ hc)
theorem zstep_mono {X : zX} {mt : Nat → Option zMe} {call : Nat → List Value → zM → Option (Option Value × zM)} (hmono : ∀ a av M v M', call a av M = some (v, M') → M.1 ≤ M'.1 ∧ M.2.1 ≤ M'.2.1) {r : zMe} {pc len : Nat} {ls : zL} {st : List Value} {M : zM} {i : Instr} {pc' : Nat} {ls' : zL} {st' : List Value} {M' : zM} (h : zstep X mt call r pc ls st M i len = some (pc', ls', st', M')) : M.1 ≤ M'.1 ∧ M.2.1 ≤ M'.2.1 := by
  unfold zstep at h
  split at h
  · cases h
    exact ⟨Nat.le_refl _, Nat.le_refl _⟩
  · split at h
    · rename_i q hq
      cases h
      exact zs1_mono hq
    · split at h
      · rename_i q hq
        cases h
        exact zs3_mono hq
      · exact zs2_mono hmono h
theorem zrun_mono {X : zX} {mt : Nat → Option zMe} {call : Nat → List Value → zM → Option (Option Value × zM)} (hmono : ∀ a av M v M', call a av M = some (v, M') → M.1 ≤ M'.1 ∧ M.2.1 ≤ M'.2.1) {r : zMe} : ∀ (n pc : Nat) (ls : zL) (st : List Value) (M : zM) (v : Option Value) (M' : zM), zrun X mt call r n pc ls st M = some (v, M') → M.1 ≤ M'.1 ∧ M.2.1 ≤ M'.2.1 := by
  intro n
  induction n with
  | zero => intro pc ls st M v M' h; cases h
  | succ n ih =>
    intro pc ls st M v M' h
    unfold zrun at h
    split at h
    · cases h
    · split at h
      · split at h
        · cases h
          exact ⟨Nat.le_refl _, Nat.le_refl _⟩
        · split at h
          · rename_i hs
            have h1 := zstep_mono hmono hs
            have h2 := ih _ _ _ _ _ _ h
            omega
          · cases h
      · cases h
/-- what is said of some methods is right, at depths from 8 on -/
def zOv (th : Nat) (l : Launch) (base : Nat) (ex : Nat → Nat) (dC : Nat → ClassId) (dI : Nat → Nat → Nat) (X : zX) (mt : Nat → Option zMe) (ov : zCall) : Prop :=
  ∀ a av M v M', ov a av M = some (v, M') → (M.1 ≤ M'.1 ∧ M.2.1 ≤ M'.2.1) ∧ ∀ d, th ≤ d → ∀ r, mt a = some r → zMet l base ex dC dI X d r av M v M'
theorem zev_mono {th : Nat} {l : Launch} {base : Nat} {ex : Nat → Nat} {dC : Nat → ClassId} {dI : Nat → Nat → Nat} {X : zX} {mt : Nat → Option zMe} {ov : zCall} (hov : zOv th l base ex dC dI X mt ov) : ∀ (d n a : Nat) (av : List Value) (M : zM) (v : Option Value) (M' : zM), zev th X mt ov d n a av M = some (v, M') → M.1 ≤ M'.1 ∧ M.2.1 ≤ M'.2.1 := by
  intro d
  induction d with
  | zero => intro n a av M v M' h; cases h
  | succ d ih =>
    intro n a av M v M' h
    unfold zev at h
    split at h
    · rename_i q hq
      split at h
      · cases h
        exact (hov _ _ _ _ _ hq).1
      · cases h
    · split at h
      · cases h
      · split at h
        · exact zrun_mono (ih n) _ _ _ _ _ _ _ h
        · cases h
section ZS4
variable {p : Program} {l : Launch} {e : Env} {R : Room} {s : State} {m : MethodId} {args : Array Value} {below : List Frame} {meth : Method} {c : Code} {H : Heap} {locs : List Loc} {cells slots : Nat} {Q : State → Prop} {base : Nat} {ex : Nat → Nat} {dC : Nat → ClassId} {dI : Nat → Nat → Nat} {X : zX} {pc len pc' c0 s0 d : Nat} {i : Instr} {ls ls' : zL} {st st' : List Value} {M M' : zM} {L : Array Slot}
variable {mt : Nat → Option zMe} {call : Nat → List Value → zM → Option (Option Value × zM)} {r : zMe}
set_option maxHeartbeats 4000000 in
theorem z_s1 (C : zCtx p s m args meth c R r.2.1 base ex X r.2.2.2.2.2.1 (r.2.2.2.2.2.2.1 == 2) r.2.2.1 c0) (hd : decode r.2.1 pc = .ok (i, len)) (hk : zlok i len = true) (h : zs1 X r.2.2.2.2.2.1 (r.2.2.2.2.2.2.1 == 2) pc ls st M i = some (pc', ls', st', M')) (hl : lv_has L r.2.2.1 (zcl (zad base ex) ls)) (hM : zMid base ex dC dI s M H locs) (hcc : cells + c0 = M.1) (hss : slots + s0 = M.2.1) (hRc : M'.1 ≤ R.cells + c0) (hRs : M'.2.1 ≤ R.slots + s0)
    (kk : zGo p l e R s m args below meth c Q base ex dC dI r.2.2.1 c0 s0 pc' ls' st' M') : W p l e R s m args below meth c H locs cells slots Q (F0 m pc L (zcs (zad base ex) st)) := by
  cases i
  case getfield x => have hk : len = 3 := by simpa [zlok] using hk
                     subst hk; exact z_getfield C hd h hl hM hcc hss kk
  case putfield x => have hk : len = 3 := by simpa [zlok] using hk
                     subst hk; exact z_putfield C hd h hl hM hcc hss kk
  case getstatic x => have hk : len = 3 := by simpa [zlok] using hk
                      subst hk; exact z_getstatic C hd h hl hM hcc hss kk
  case iaload => have hk : len = 1 := by simpa [zlok] using hk
                 subst hk; exact z_iaload C hd h hl hM hcc hss kk
  case baload => have hk : len = 1 := by simpa [zlok] using hk
                 subst hk; exact z_baload C hd h hl hM hcc hss kk
  case aaload => have hk : len = 1 := by simpa [zlok] using hk
                 subst hk; exact z_aaload C hd h hl hM hcc hss kk
  case iastore => have hk : len = 1 := by simpa [zlok] using hk
                  subst hk; exact z_iastore C hd h hl hM hcc hss kk
  case bastore => have hk : len = 1 := by simpa [zlok] using hk
                  subst hk; exact z_bastore C hd h hl hM hcc hss kk
  case aastore => have hk : len = 1 := by simpa [zlok] using hk
                  subst hk; exact z_aastore C hd h hl hM hcc hss kk
  case arraylength => have hk : len = 1 := by simpa [zlok] using hk
                      subst hk; exact z_arraylength C hd h hl hM hcc hss kk
  case newarray t => have hk : len = 2 := by simpa [zlok] using hk
                     subst hk; exact z_newarray C hd h hl hM hcc hss hRc hRs kk
  case anewarray x => have hk : len = 3 := by simpa [zlok] using hk
                      subst hk; exact z_anewarray C hd h hl hM hcc hss hRc hRs kk
  case new x => have hk : len = 3 := by simpa [zlok] using hk
                subst hk; exact z_new C hd h hl hM hcc hss hRc hRs kk
  case ldc x => have hk : len = 2 := by simpa [zlok] using hk
                subst hk; exact z_ldc C hd h hl hM hcc hss kk
  case ldc_w x => have hk : len = 3 := by simpa [zlok] using hk
                  subst hk; exact z_ldc_w C hd h hl hM hcc hss kk
  case ldc2_w x => have hk : len = 3 := by simpa [zlok] using hk
                   subst hk; exact z_ldc2_w C hd h hl hM hcc hss kk
  case invokespecial x => have hk : len = 3 := by simpa [zlok] using hk
                          subst hk; exact z_objinit C hd h hl hM hcc hss kk
  case invokestatic x => have hk : len = 3 := by simpa [zlok] using hk
                         subst hk; exact z_arraycopy C hd h hl hM hcc hss kk
  all_goals (exfalso; revert h; simp [zs1])
theorem z_s3 (C : zCtx p s m args meth c R r.2.1 base ex X r.2.2.2.2.2.1 (r.2.2.2.2.2.2.1 == 2) r.2.2.1 c0) (hd : decode r.2.1 pc = .ok (i, len)) (hk : zlok i len = true) (h : zs3 X r.2.2.2.2.2.1 pc ls st M i = some (pc', ls', st', M')) (hl : lv_has L r.2.2.1 (zcl (zad base ex) ls)) (hM : zMid base ex dC dI s M H locs) (hcc : cells + c0 = M.1) (hss : slots + s0 = M.2.1)
    (kk : zGo p l e R s m args below meth c Q base ex dC dI r.2.2.1 c0 s0 pc' ls' st' M') : W p l e R s m args below meth c H locs cells slots Q (F0 m pc L (zcs (zad base ex) st)) := by
  cases i
  case getfield x => have hk : len = 3 := by simpa [zlok] using hk
                     subst hk; exact z_sgetfield C hd h hl hM hcc hss kk
  case getstatic x => have hk : len = 3 := by simpa [zlok] using hk
                      subst hk; exact z_sgetstatic C hd h hl hM hcc hss kk
  case baload => have hk : len = 1 := by simpa [zlok] using hk
                 subst hk; exact z_sbaload C hd h hl hM hcc hss kk
  case arraylength => have hk : len = 1 := by simpa [zlok] using hk
                      subst hk; exact z_sarraylength C hd h hl hM hcc hss kk
  all_goals (exfalso; revert h; simp [zs3])
theorem z_step (C : zCtx p s m args meth c R r.2.1 base ex X r.2.2.2.2.2.1 (r.2.2.2.2.2.2.1 == 2) r.2.2.1 c0) (hOK : ∀ a r, mt a = some r → zOK r) (hcall : ∀ a av M v M', call a av M = some (v, M') → ∀ r, mt a = some r → zMet l base ex dC dI X d r av M v M') (hmono : ∀ a av M v M', call a av M = some (v, M') → M.1 ≤ M'.1 ∧ M.2.1 ≤ M'.2.1)
    (hRf : d + 1 ≤ R.frames) (hRl : 200 * (d + 1) ≤ R.locals) (hd : decode r.2.1 pc = .ok (i, len)) (hk : zlok i len = true) (h : zstep X mt call r pc ls st M i len = some (pc', ls', st', M')) (hRc : M'.1 ≤ R.cells + c0) (hRs : M'.2.1 ≤ R.slots + s0)
    (kk : zGo p l e R s m args below meth c Q base ex dC dI r.2.2.1 c0 s0 pc' ls' st' M') : zGo p l e R s m args below meth c Q base ex dC dI r.2.2.1 c0 s0 pc ls st M := by
  intro L H locs cells slots hcc hss hl hM
  unfold zstep at h
  split at h
  · rename_i a b c' hq
    cases h
    exact z_s0 C.1 C.2.1 hd hk hq hl (fun L' h' => kk L' H locs cells slots hcc hss h' hM)
  · split at h
    · rename_i q hq
      cases h
      exact z_s1 C hd hk hq hl hM hcc hss hRc hRs kk
    · split at h
      · rename_i q hq
        cases h
        exact z_s3 C hd hk hq hl hM hcc hss kk
      · exact z_s2 C hOK hcall hmono hRf hRl hd hk h hl hM hcc hss hRc hRs kk
/-- where a method ends -/
def zFin (p : Program) (l : Launch) (e : Env) (R : Room) (s : State) (m : MethodId) (args : Array Value) (below : List Frame) (meth : Method) (c : Code) (Q : State → Prop) (base : Nat) (ex : Nat → Nat) (dC : Nat → ClassId) (dI : Nat → Nat → Nat) (r : zMe) (c0 s0 : Nat) (v : Option Value) (M : zM) : Prop :=
  ∀ (pc len : Nat) (i : Instr) (st : List Value) (L : Array Slot) (H : Heap) (locs : List Loc) (cells slots : Nat), decode r.2.1 pc = .ok (i, len) → zlok i len = true → zret r.2.2.2.1 i st = some v → cells + c0 = M.1 → slots + s0 = M.2.1 → zMid base ex dC dI s M H locs → W p l e R s m args below meth c H locs cells slots Q (F0 m pc L (zcs (zad base ex) st))
theorem z_run {v : Option Value} (C : zCtx p s m args meth c R r.2.1 base ex X r.2.2.2.2.2.1 (r.2.2.2.2.2.2.1 == 2) r.2.2.1 c0) (hOK : ∀ a r, mt a = some r → zOK r) (hcall : ∀ a av M v M', call a av M = some (v, M') → ∀ r, mt a = some r → zMet l base ex dC dI X d r av M v M') (hmono : ∀ a av M v M', call a av M = some (v, M') → M.1 ≤ M'.1 ∧ M.2.1 ≤ M'.2.1)
    (hRf : d + 1 ≤ R.frames) (hRl : 200 * (d + 1) ≤ R.locals) (hdec : ∀ pc x, r.2.2.2.2.2.2.2 pc = some x → decode r.2.1 pc = .ok x) (hRc : M'.1 ≤ R.cells + c0) (hRs : M'.2.1 ≤ R.slots + s0) (hfin : zFin p l e R s m args below meth c Q base ex dC dI r c0 s0 v M') :
    ∀ (n pc : Nat) (ls : zL) (st : List Value) (M : zM), zrun X mt call r n pc ls st M = some (v, M') → zGo p l e R s m args below meth c Q base ex dC dI r.2.2.1 c0 s0 pc ls st M := by
  intro n
  induction n with
  | zero => intro pc ls st M h; cases h
  | succ n ih =>
    intro pc ls st M h
    unfold zrun at h
    split at h
    · cases h
    · rename_i i len htb
      split at h
      · rename_i hk
        split at h
        · rename_i v1 hv1
          cases h
          intro L H locs cells slots hcc hss hl hM
          exact hfin pc len i st L H locs cells slots (hdec _ _ htb) hk hv1 hcc hss hM
        · split at h
          · rename_i pc1 ls1 st1 M1 hs
            have h2 := zrun_mono hmono _ _ _ _ _ _ _ h
            exact z_step C hOK hcall hmono hRf hRl (hdec _ _ htb) hk hs (by omega) (by omega) (ih _ _ _ _ h)
          · cases h
      · cases h
end ZS4
theorem zcl_args {ad : Nat → Nat} : ∀ (vs : List Value) (i : Nat), zcl ad (lv_args i vs) = lv_args i (zcs ad vs) := by
  intro vs
  induction vs with
  | nil => intro i; rfl
  | cons v vs ih =>
    intro i
    show (i, zcv ad v) :: zcl ad (lv_args _ vs) = (i, zcv ad v) :: lv_args _ (zcs ad vs)
    rw [ih, zcv_cat]
theorem zsl_len {ad : Nat → Nat} : ∀ (vs : List Value), (lg_sl (zcs ad vs)).length = (lg_sl vs).length := by
  intro vs
  induction vs with
  | nil => rfl
  | cons v vs ih =>
    show (lg_sl (zcv ad v :: zcs ad vs)).length = _
    unfold lg_sl at ih ⊢
    rw [List.flatMap_cons, List.flatMap_cons, List.length_append, List.length_append, ih, zcv_cat]
    by_cases h : v.category = 2
    · rw [if_pos h, if_pos h]; rfl
    · rw [if_neg h, if_neg h]; rfl
set_option maxHeartbeats 1000000 in
/-- a run of a method's code gives its contract -/
theorem zMet_of {l : Launch} {base : Nat} {ex : Nat → Nat} {dC : Nat → ClassId} {dI : Nat → Nat → Nat} {X : zX} {mt : Nat → Option zMe} (hOK : ∀ a r, mt a = some r → zOK r) {call : zCall} {d n a : Nat} {r : zMe} (hr : mt a = some r) (hcall : ∀ a av M v M', call a av M = some (v, M') → ∀ r, mt a = some r → zMet l base ex dC dI X d r av M v M') (hmono : ∀ a av M v M', call a av M = some (v, M') → M.1 ≤ M'.1 ∧ M.2.1 ≤ M'.2.1) {av : List Value} {M : zM} {v : Option Value} {M' : zM} (hlen : (lg_sl av).length ≤ r.2.2.1) (h : zrun X mt call r n 0 (lv_args 0 av) [] M = some (v, M')) : zMet l base ex dC dI X (d + 1) r av M v M' := by
  have hm := zrun_mono hmono _ _ _ _ _ _ _ h
  obtain ⟨z1, z2, z3, z4, z5, z6, z7, z8, z9, z10⟩ := hOK a r hr
  refine va_MetF (cc := r.2.1) (maxL := r.2.2.1) (ret := r.2.2.2.1) z4 rfl ?_
  intro p e s m args below meth c s₁ B hml hPc
  obtain ⟨rfl, hsz, hMid, hExt⟩ := hPc
  have hx := B.exec
  have hb := B.bytes
  have hrt := B.returns
  have hts := atoms_spec (ws := zws r) B.pre
  have hown : s.vm.findClass r.1.cls = some m.cls := findClass_of_methodNamed B.named
  have hlocks := B.notSynchronized
  have hin : meth.name = r.1.name := (name_of_methodNamed B.named B.method).1
  have C : zCtx p s m (zcs (zad base ex) av).toArray meth c (headSpec (zws r) (zrm (d + 1) (M'.1 - M.1) (M'.2.1 - M.2.1))).room r.2.1 base ex X r.2.2.2.2.2.1 (r.2.2.2.2.2.2.1 == 2) r.2.2.1 M.1 :=
    ⟨hx, hb, by rw [z6.2]; exact hown, z6.1, fun w hw => hts w (List.mem_cons_of_mem _ hw), hExt, fun q => by rw [hin]; exact (z9 (by simpa using q)).2.1, hml, by show 1 ≤ d + 1; omega, by show 200 ≤ 200 * (d + 1); omega, hsz⟩
  have hl := lv_entry (zcs (zad base ex) av) (n := r.2.2.1) (by rw [zsl_len]; exact hlen)
  rw [lg_entry_eq, ← zcl_args] at *
  refine z_run (s0 := M.2.1) (c0 := M.1) C hOK hcall hmono (by show d + 1 ≤ d + 1; omega) (by show 200 * (d + 1) ≤ 200 * (d + 1); omega) z10 (by show M'.1 ≤ (M'.1 - M.1) + M.1; omega) (by show M'.2.1 ≤ (M'.2.1 - M.2.1) + M.2.1; omega) ?_ n 0 (lv_args 0 av) [] M h _ s.heap [] 0 0 (by omega) (by omega) hl hMid
  intro pc len i st L H locs cells slots hdg hk hret hcc hss hM
  have e1 : cells = M'.1 - M.1 := by omega
  have e2 : slots = M'.2.1 - M.2.1 := by omega
  subst e1
  subst e2
  refine W.size (fun hsz2 => ?_)
  have hsz3 : H.size ≤ base + M'.1 := by omega
  have hq : ∀ t : State, t.heap = H → s.WarmedH t.vm → zQc base ex dC dI X v M' (zcs (zad base ex) av).toArray s (.returned (v.map (zcv (zad base ex)))) t := fun t ht hW => ⟨rfl, hM.wld C hsz3 ht hW, hM.2.2.1.F ht⟩
  have hf : ∀ q ∈ locs, zA base q.base := hM.2.2.1.2.2
  cases i <;> simp only [zret, reduceCtorEq] at hret
  case return_ =>
    have hk : len = 1 := by simpa [zlok] using hk
    subst hk
    split at hret
    · rename_i h0
      cases hret
      rw [h0] at hrt
      exact W.vret hx hb hrt hq hf hdg
    · cases hret
  case ireturn =>
    have hk : len = 1 := by simpa [zlok] using hk
    subst hk
    split at hret
    · rename_i ty x h0
      split at hret
      · rename_i hn
        cases hret
        rw [h0] at hrt
        exact W.zret hx hb hrt hn hq hf hdg
      · cases hret
    · cases hret
  case lreturn =>
    have hk : len = 1 := by simpa [zlok] using hk
    subst hk
    split at hret
    · rename_i x h0
      cases hret
      rw [h0] at hrt
      exact W.lret hx hb hrt hq hf hdg
    · cases hret
  case areturn =>
    have hk : len = 1 := by simpa [zlok] using hk
    subst hk
    split at hret
    · rename_i x y h0
      cases hret
      rw [h0] at hrt
      exact W.aret hx hb hrt (Or.inl ⟨_, rfl⟩) (Or.inr ⟨_, rfl⟩) hq hf hdg
    · rename_i x h0
      cases hret
      rw [h0] at hrt
      exact W.aret hx hb hrt (Or.inl ⟨_, rfl⟩) (Or.inl rfl) hq hf hdg
    · cases hret
/-- THE EVALUATOR IS RIGHT: what it answers, the machine's method does -/
theorem zev_ok {th : Nat} {l : Launch} {base : Nat} {ex : Nat → Nat} {dC : Nat → ClassId} {dI : Nat → Nat → Nat} {X : zX} {mt : Nat → Option zMe} {ov : zCall} (hOK : ∀ a r, mt a = some r → zOK r) (hov : zOv th l base ex dC dI X mt ov) : ∀ (d n a : Nat) (av : List Value) (M : zM) (v : Option Value) (M' : zM), zev th X mt ov d n a av M = some (v, M') → ∀ r, mt a = some r → zMet l base ex dC dI X d r av M v M' := by
  intro d
  induction d with
  | zero => intro n a av M v M' h; cases h
  | succ d ih =>
    intro n a av M v M' h r hr
    unfold zev at h
    split at h
    · rename_i q hq
      split at h
      · rename_i hd
        cases h
        exact (hov _ _ _ _ _ hq).2 (d + 1) (by omega) r hr
      · cases h
    · rw [hr] at h
      dsimp only at h
      split at h
      · rename_i hlen
        exact zMet_of hOK hr (fun a av M v M' h => ih n a av M v M' h) (fun a av M v M' h => zev_mono hov _ _ _ _ _ _ _ h) hlen h
      · cases h
