/-! THE ROWS OF THE EVALUATOR, 3: calls -/
theorem zws_good {r : zMe} (h : zOK r) : GoodIn zW (zws r) := by
  intro w hw
  rcases List.mem_cons.mp hw with rfl | hw
  · exact zW_good _ h.1
  · exact zW_good _ hw
section ZS3
variable {p : Program} {l : Launch} {e : Env} {R : Room} {s : State} {m : MethodId} {args : Array Value} {below : List Frame} {meth : Method} {c : Code} {H : Heap} {locs : List Loc} {cells slots : Nat} {Q : State → Prop} {cc : ByteArray} {base : Nat} {ex : Nat → Nat} {dC : Nat → ClassId} {dI : Nat → Nat → Nat} {X : zX} {own : Nat} {ini : Bool} {pc nL len pc' c0 s0 d : Nat} {i : Instr} {ls ls' : zL} {st st' : List Value} {M M' : zM} {L : Array Slot}
variable {mt : Nat → Option zMe} {call : Nat → List Value → zM → Option (Option Value × zM)}
theorem zcs_rev {ad : Nat → Nat} (st : List Value) : zcs ad st.reverse = (zcs ad st).reverse := by simp [zcs, List.map_reverse]
theorem zcs_split {ad : Nat → Nat} {st rest : List Value} {n b : Nat} (h : st.drop n = .ref b :: rest) : zcs ad st = (zcs ad (st.take n).reverse).reverse ++ .ref (ad b) :: zcs ad rest := by
  rw [zcs_rev, List.reverse_reverse]
  have : st = st.take n ++ .ref b :: rest := by rw [← h]; exact (List.take_append_drop n st).symm
  conv => lhs; rw [this]
  unfold zcs
  rw [List.map_append]
  rfl
theorem zcs_split0 {ad : Nat → Nat} (st : List Value) (n : Nat) : zcs ad st = (zcs ad (st.take n).reverse).reverse ++ zcs ad (st.drop n) := by
  rw [zcs_rev, List.reverse_reverse]
  conv => lhs; rw [← List.take_append_drop n st]
  unfold zcs
  rw [List.map_append]
theorem z_lk1 {o x a n p : Nat} (ho : o < 21) (h : zlk o x = some (1, a, n, p)) : Cond.methodLink (zown o) x (zmn a) ∈ zW := z_lk ho h (show (1 : Nat) ≠ 7 by decide) rfl rfl
theorem z_lk2 {o x a n p : Nat} (ho : o < 21) (h : zlk o x = some (2, a, n, p)) : Cond.methodLinkNest (zown o) x (zmn a) "ForthHouse" ∈ zN := z_lkN ho h (show (2 : Nat) ≠ 7 by decide) rfl rfl
theorem z_s2 (C : zCtx p s m args meth c R cc base ex X own ini nL c0) (hOK : ∀ a r, mt a = some r → zOK r) (hcall : ∀ a av M v M', call a av M = some (v, M') → ∀ r, mt a = some r → zMet l base ex dC dI X d r av M v M') (hmono : ∀ a av M v M', call a av M = some (v, M') → M.1 ≤ M'.1 ∧ M.2.1 ≤ M'.2.1)
    (hRf : d + 1 ≤ R.frames) (hRl : 200 * (d + 1) ≤ R.locals) (hd : decode cc pc = .ok (i, len)) (hk : zlok i len = true) (h : zs2 mt call own pc ls st M i = some (pc', ls', st', M')) (hl : lv_has L nL (zcl (zad base ex) ls)) (hM : zMid base ex dC dI s M H locs) (hcc : cells + c0 = M.1) (hss : slots + s0 = M.2.1) (hRc : M'.1 ≤ R.cells + c0) (hRs : M'.2.1 ≤ R.slots + s0)
    (kk : zGo p l e R s m args below meth c Q base ex dC dI nL c0 s0 pc' ls' st' M') : W p l e R s m args below meth c H locs cells slots Q (F0 m pc L (zcs (zad base ex) st)) := by
  obtain ⟨hx, hb, hown, ho, hts, hE, hini, hml, -, -, hs0⟩ := id C
  refine W.size (fun hsz => ?_)
  have hsz : H.size ≤ base + M.1 := by omega
  have hblind : ∀ (av : List Value), FrameBlind (va_Pc av (zWld base ex dC dI X M)) := fun av => zWld.blind
  have hwld : ∀ (av : List Value) (U : State), U.heap = H → s.WarmedH U.vm → va_Pc av (zWld base ex dC dI X M) av.toArray U := fun av U hU hW => ⟨rfl, hM.wld C hsz hU hW⟩
  cases i
  case invokevirtual x =>
    have hk : len = 3 := by simpa [zlok] using hk
    subst hk
    simp only [zs2] at h
    split at h
    · rename_i t a n p0 hlk
      split at h
      · rename_i r hr
        split at h
        · rename_i b rest hst
          split at h
          · rename_i hbs
            split at h
            · rename_i hcnd
              split at h
              · rename_i v M1 hcv
                cases h
                obtain ⟨ct, cn, cp, ck, cq, cl, cw⟩ := hcnd
                obtain ⟨z1, z2, z3, z4, z5, z6, -, z7, -, z8⟩ := hOK a r hr
                obtain ⟨z71, z72⟩ := z7 ck
                have hMt := hcall _ _ _ _ _ hcv r hr
                obtain ⟨m1, m2⟩ := hmono _ _ _ _ _ hcv
                obtain ⟨h1, h2, hS, hF, ws, tys, hR, hP, hK⟩ := id hM
                have hbs : @LE.le Nat _ 1000000 b ∧ @LT.lt Nat _ b 1000013 := hbs
                have hrecv := vk_recv (i := b - 1000000) hE.2.2.2.2.2.2.2.2.2.1 (by omega) hS
                have e1 : ex (b - 1000000) = zad base ex b := by
                  unfold zad
                  rw [if_neg (by omega)]
                rw [cq, e1] at hrecv
                have hn : (zcs (zad base ex) (st.take n).reverse).length = n := by rw [zcs_len, List.length_reverse]; exact cl
                have hroom : (zrm d (M'.1 - M.1) (M'.2.1 - M.2.1)).frames + 1 ≤ R.frames ∧ 8 + (r.2.2.1 + 11) + (zrm d (M'.1 - M.1) (M'.2.1 - M.2.1)).locals ≤ R.locals := ⟨hRf, by show 8 + (r.2.2.1 + 11) + 200 * d ≤ R.locals; omega⟩
                have hdd : r.1.cls ≠ "java/lang/invoke/MethodHandle" ∧ r.1.cls ≠ "java/lang/invoke/VarHandle" ∧ (parseMethodDescriptor r.1.desc).map (fun d => d.parameters.length) = some n := by rw [← cp]; exact z3
                have hw8 : 2 * (F0 m pc L (zcs (zad base ex) st)).monitorRoom + ((zcs (zad base ex) rest).map fun v => v.category).sum ≤ 8 := by
                  show 2 * 0 + _ ≤ 8
                  rw [zcs_cat]
                  omega
                refine z_back C ?_ hM hl (mc := M'.1 - M.1) (ms := M'.2.1 - M.2.1) (by omega) (by omega) kk (a := (Value.ref (zad base ex b) :: zcs (zad base ex) (st.take n).reverse).toArray)
                rcases ct with rfl | rfl
                · have hlw := z_lk1 ho hlk
                  rw [cn] at hlw
                  exact va_runV (g := F0 m pc L (zcs (zad base ex) st)) ⟨hx, hb, hml, hown, hts⟩ hMt ⟨callB_of n hts (zws_good (hOK a r hr)) rfl rfl rfl (hts _ z2) (hts _ hlw) hdd hroom, hts _ z71, hts _ z72⟩ ⟨hblind _, hrecv, hwld _⟩ rfl hn hl.1 (zcs_split hst) hw8 hd ⟨by omega, by omega⟩
                · have hlw := hE.2.2.2.2.2.1 _ (z_lk2 ho hlk)
                  rw [cn] at hlw
                  exact va_runVN (g := F0 m pc L (zcs (zad base ex) st)) ⟨hx, hb, hml, hown, hts⟩ hMt ⟨va_cnB n hts (zws_good (hOK a r hr)) rfl rfl rfl hlw (hts _ z2) hdd hroom, hts _ z71, hts _ z72⟩ ⟨hblind _, hrecv, hwld _⟩ rfl hn hl.1 (zcs_split hst) hw8 hd ⟨by omega, by omega⟩
              · cases h
            · cases h
          · split at h
            · rename_i ci fs hob
              split at h
              · rename_i q hq
                split at h
                · rename_i hcnd
                  split at h
                  · rename_i v M1 hcv
                    cases h
                    obtain ⟨ct, cn, cp, ck, cq, cl, cw⟩ := hcnd
                    obtain ⟨z1, z2, z3, z4, z5, z6, -, z7, -, z8⟩ := hOK a r hr
                    obtain ⟨z71, z72⟩ := z7 ck
                    have hMt := hcall _ _ _ _ _ hcv r hr
                    obtain ⟨m1, m2⟩ := hmono _ _ _ _ _ hcv
                    obtain ⟨h1, h2, hS, hF, ws, tys, hR, hP, hK⟩ := id hM
                    obtain ⟨w, hw, hrl, hlt⟩ := hR.ent hob
                    have hw' : w = .inr (ci, zcs (zad base ex) fs) := hrl
                    subst hw'
                    have hrecv := va_recv hK hP hq hw
                    rw [cq] at hrecv
                    have hn : (zcs (zad base ex) (st.take n).reverse).length = n := by rw [zcs_len, List.length_reverse]; exact cl
                    have hroom : (zrm d (M'.1 - M.1) (M'.2.1 - M.2.1)).frames + 1 ≤ R.frames ∧ 8 + (r.2.2.1 + 11) + (zrm d (M'.1 - M.1) (M'.2.1 - M.2.1)).locals ≤ R.locals := ⟨hRf, by show 8 + (r.2.2.1 + 11) + 200 * d ≤ R.locals; omega⟩
                    have hdd : r.1.cls ≠ "java/lang/invoke/MethodHandle" ∧ r.1.cls ≠ "java/lang/invoke/VarHandle" ∧ (parseMethodDescriptor r.1.desc).map (fun d => d.parameters.length) = some n := by rw [← cp]; exact z3
                    have hw8 : 2 * (F0 m pc L (zcs (zad base ex) st)).monitorRoom + ((zcs (zad base ex) rest).map fun v => v.category).sum ≤ 8 := by
                      show 2 * 0 + _ ≤ 8
                      rw [zcs_cat]
                      omega
                    refine z_back C ?_ hM hl (mc := M'.1 - M.1) (ms := M'.2.1 - M.2.1) (by omega) (by omega) kk (a := (Value.ref (zad base ex b) :: zcs (zad base ex) (st.take n).reverse).toArray)
                    rcases ct with rfl | rfl
                    · have hlw := z_lk1 ho hlk
                      rw [cn] at hlw
                      exact va_runV (g := F0 m pc L (zcs (zad base ex) st)) ⟨hx, hb, hml, hown, hts⟩ hMt ⟨callB_of n hts (zws_good (hOK a r hr)) rfl rfl rfl (hts _ z2) (hts _ hlw) hdd hroom, hts _ z71, hts _ z72⟩ ⟨hblind _, hrecv, hwld _⟩ rfl hn hl.1 (zcs_split hst) hw8 hd ⟨by omega, by omega⟩
                    · have hlw := hE.2.2.2.2.2.1 _ (z_lk2 ho hlk)
                      rw [cn] at hlw
                      exact va_runVN (g := F0 m pc L (zcs (zad base ex) st)) ⟨hx, hb, hml, hown, hts⟩ hMt ⟨va_cnB n hts (zws_good (hOK a r hr)) rfl rfl rfl hlw (hts _ z2) hdd hroom, hts _ z71, hts _ z72⟩ ⟨hblind _, hrecv, hwld _⟩ rfl hn hl.1 (zcs_split hst) hw8 hd ⟨by omega, by omega⟩
                  · cases h
                · cases h
              · cases h
            · cases h
        · cases h
      · cases h
    · cases h
  case invokespecial x =>
    have hk : len = 3 := by simpa [zlok] using hk
    subst hk
    simp only [zs2] at h
    split at h
    · rename_i t a n p0 hlk
      split at h
      · rename_i r hr
        split at h
        · rename_i b rest hst
          split at h
          · rename_i hcnd
            split at h
            · rename_i v M1 hcv
              cases h
              obtain ⟨ct, cn, cp, ck, cl, cw⟩ := hcnd
              obtain ⟨z1, z2, z3, z4, z5, z6, -, -, z7, z8⟩ := hOK a r hr
              obtain ⟨z71, z72, z73⟩ := z7 ck
              have hMt := hcall _ _ _ _ _ hcv r hr
              obtain ⟨m1, m2⟩ := hmono _ _ _ _ _ hcv
              have hn : (zcs (zad base ex) (st.take n).reverse).length = n := by rw [zcs_len, List.length_reverse]; exact cl
              have hroom : (zrm d (M'.1 - M.1) (M'.2.1 - M.2.1)).frames + 1 ≤ R.frames ∧ 8 + (r.2.2.1 + 11) + (zrm d (M'.1 - M.1) (M'.2.1 - M.2.1)).locals ≤ R.locals := ⟨hRf, by show 8 + (r.2.2.1 + 11) + 200 * d ≤ R.locals; omega⟩
              have hdd : r.1.cls ≠ "java/lang/invoke/MethodHandle" ∧ r.1.cls ≠ "java/lang/invoke/VarHandle" ∧ (parseMethodDescriptor r.1.desc).map (fun d => d.parameters.length) = some n := by rw [← cp]; exact z3
              have hw8 : 2 * (F0 m pc L (zcs (zad base ex) st)).monitorRoom + ((zcs (zad base ex) rest).map fun v => v.category).sum ≤ 8 := by
                show 2 * 0 + _ ≤ 8
                rw [zcs_cat]
                omega
              have hwsn : zws r = Cond.code r.1 r.2.1 r.2.2.1 none :: zW := by unfold zws; rw [z73]
              refine z_back C ?_ hM hl (mc := M'.1 - M.1) (ms := M'.2.1 - M.2.1) (by omega) (by omega) kk (a := (Value.ref (zad base ex b) :: zcs (zad base ex) (st.take n).reverse).toArray)
              rcases ct with rfl | rfl
              · have hlw := z_lk1 ho hlk
                rw [cn] at hlw
                exact va_runI (g := F0 m pc L (zcs (zad base ex) st)) ⟨hx, hb, hml, hown, hts⟩ hMt ⟨callB_of n hts (zws_good (hOK a r hr)) hwsn rfl rfl (hts _ z2) (hts _ hlw) hdd hroom, z72, hts _ z71⟩ ⟨hblind _, hwld _⟩ rfl hn hl.1 (zcs_split hst) hw8 hd ⟨by omega, by omega⟩
              · have hlw := hE.2.2.2.2.2.1 _ (z_lk2 ho hlk)
                rw [cn] at hlw
                exact va_runIN (g := F0 m pc L (zcs (zad base ex) st)) ⟨hx, hb, hml, hown, hts⟩ hMt ⟨va_cnB n hts (zws_good (hOK a r hr)) hwsn rfl rfl hlw (hts _ z2) hdd hroom, z72, hts _ z71⟩ ⟨hblind _, hwld _⟩ rfl hn hl.1 (zcs_split hst) hw8 hd ⟨by omega, by omega⟩
            · cases h
          · cases h
        · cases h
      · cases h
    · cases h
  case invokestatic x =>
    have hk : len = 3 := by simpa [zlok] using hk
    subst hk
    simp only [zs2] at h
    split at h
    · rename_i t a n p0 hlk
      split at h
      · rename_i r hr
        split at h
        · rename_i hcnd
          split at h
          · rename_i v M1 hcv
            cases h
            obtain ⟨ct, cn, cp, ck, cl, cw⟩ := hcnd
            obtain ⟨z1, z2, z3, z4, z5, z6, z7, -, -, z8⟩ := hOK a r hr
            have z71 := z7 ck
            have hMt := hcall _ _ _ _ _ hcv r hr
            obtain ⟨m1, m2⟩ := hmono _ _ _ _ _ hcv
            have hn : (zcs (zad base ex) (st.take n).reverse).length = n := by rw [zcs_len, List.length_reverse]; exact cl
            have hroom : (zrm d (M'.1 - M.1) (M'.2.1 - M.2.1)).frames + 1 ≤ R.frames ∧ 8 + (r.2.2.1 + 11) + (zrm d (M'.1 - M.1) (M'.2.1 - M.2.1)).locals ≤ R.locals := ⟨hRf, by show 8 + (r.2.2.1 + 11) + 200 * d ≤ R.locals; omega⟩
            have hdd : r.1.cls ≠ "java/lang/invoke/MethodHandle" ∧ r.1.cls ≠ "java/lang/invoke/VarHandle" ∧ (parseMethodDescriptor r.1.desc).map (fun d => d.parameters.length) = some n := by rw [← cp]; exact z3
            have hw8 : 2 * (F0 m pc L (zcs (zad base ex) st)).monitorRoom + ((zcs (zad base ex) (st.drop n)).map fun v => v.category).sum ≤ 8 := by
              show 2 * 0 + _ ≤ 8
              rw [zcs_cat]
              omega
            refine z_back C ?_ hM hl (mc := M'.1 - M.1) (ms := M'.2.1 - M.2.1) (by omega) (by omega) kk (a := (zcs (zad base ex) (st.take n).reverse).toArray)
            rcases ct with rfl | rfl
            · have hlw := z_lk1 ho hlk
              rw [cn] at hlw
              exact va_runS (g := F0 m pc L (zcs (zad base ex) st)) ⟨hx, hb, hml, hown, hts⟩ hMt ⟨callB_of n hts (zws_good (hOK a r hr)) rfl rfl rfl (hts _ z2) (hts _ hlw) hdd hroom, hts _ z71⟩ ⟨hblind _, hwld _⟩ rfl hn hl.1 (zcs_split0 st n) hw8 hd ⟨by omega, by omega⟩
            · have hlw := hE.2.2.2.2.2.1 _ (z_lk2 ho hlk)
              rw [cn] at hlw
              exact va_runSN (g := F0 m pc L (zcs (zad base ex) st)) ⟨hx, hb, hml, hown, hts⟩ hMt ⟨va_cnB n hts (zws_good (hOK a r hr)) rfl rfl rfl hlw (hts _ z2) hdd hroom, hts _ z71, trivial⟩ ⟨hblind _, hwld _⟩ rfl hn hl.1 (zcs_split0 st n) hw8 hd ⟨by omega, by omega⟩
          · cases h
        · cases h
      · cases h
    · cases h
  all_goals (exfalso; revert h; simp [zs2])
end ZS3
