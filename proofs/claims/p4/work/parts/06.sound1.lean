/-! THE ROWS OF THE EVALUATOR, 1: memory and the world -/
theorem z_lk {o k : Nat} {r : Nat × Nat × Nat × Nat} {w : Cond} (ho : o < 21) (h : zlk o k = some r) (h7 : r.1 ≠ 7) (hw : zlkw (zown o) k r = some w) (hn : znest w = false) : w ∈ zW := by
  obtain ⟨w', h1, h2⟩ := zlk_ok o ho k r h h7
  rw [hw] at h1
  cases h1
  rcases h2 with h2 | ⟨-, h2⟩
  · exact h2
  · rw [hn] at h2; cases h2
theorem z_lkN {o k : Nat} {r : Nat × Nat × Nat × Nat} {w : Cond} (ho : o < 21) (h : zlk o k = some r) (h7 : r.1 ≠ 7) (hw : zlkw (zown o) k r = some w) (hn : goodWord w = false) : w ∈ zN := by
  obtain ⟨w', h1, h2⟩ := zlk_ok o ho k r h h7
  rw [hw] at h1
  cases h1
  rcases h2 with h2 | ⟨h2, -⟩
  · have := (List.mem_filter.mp h2).2
    rw [hn] at this; cases this
  · exact h2
theorem z_lk0 {o x ci k p : Nat} (ho : o < 21) (h : zlk o x = some (0, ci, k, p)) : ∃ (C : String) (T : u_T) (N : Nat), zcls[ci]? = some (C, T, N) ∧ k < N ∧ Cond.fieldLink (zown o) x (T k).1 (T k).2.1 (T k).2.2.1 ∈ zW := by
  obtain ⟨w, h1, -⟩ := zlk_ok o ho x _ h (show (0 : Nat) ≠ 7 by decide)
  cases hq : zcls[ci]? with
  | none => simp [zlkw, hq] at h1
  | some q =>
    by_cases hk : k < q.2.2
    · refine ⟨q.1, q.2.1, q.2.2, rfl, hk, z_lk ho h (show (0 : Nat) ≠ 7 by decide) ?_ rfl⟩
      simp [zlkw, hq, hk]
    · simp [zlkw, hq, hk] at h1
def zad (base : Nat) (ex : Nat → Nat) (k : Nat) : Nat := if k < 1000000 then base + k else ex (k - 1000000)
def zA (base : Nat) : Nat → Prop := fun q => base ≤ q
def zcA (ad : Nat → Nat) (a : vp_A) : vp_A := match a with
  | (n, .inl f) => (n, .inl f)
  | (n, .inr (.inl f)) => (n, .inr (.inl f))
  | (n, .inr (.inr (.inl f))) => (n, .inr (.inr (.inl f)))
  | (n, .inr (.inr (.inr (.inl f)))) => (n, .inr (.inr (.inr (.inl f))))
  | (n, .inr (.inr (.inr (.inr f)))) => (n, .inr (.inr (.inr (.inr (fun j => (f j).map ad)))))
theorem zcA_1 (ad : Nat → Nat) (a : vp_A) : (zcA ad a).1 = a.1 := by
  obtain ⟨n, f | f | f | f | f⟩ := a <;> rfl
def zrl (ad : Nat → Nat) (tys : List (ClassId × FieldType)) (e : zE) (w : va_E) : Prop := match e with
  | .inl (t, a) => ∃ (cA : ClassId) (t0 : Nat), tys[t0]? = some (cA, zty t) ∧ w = .inl (cA, zcA ad a)
  | .inr (ci, fs) => w = .inr (ci, zcs ad fs)
theorem zrl.more {ad : Nat → Nat} {tys t2 : List (ClassId × FieldType)} {e : zE} {w : va_E} (h : zrl ad tys e w) : zrl ad (tys ++ t2) e w := by
  match e, h with
  | .inl (t, a), ⟨cA, t0, h1, h2⟩ => exact ⟨cA, t0, by rw [List.getElem?_append_left (List.getElem?_eq_some_iff.mp h1).1]; exact h1, h2⟩
  | .inr (ci, fs), h => exact h
def zWs (ad : Nat → Nat) (M : zM) (ws : va_W) (tys : List (ClassId × FieldType)) : Prop := ws.length = M.1 ∧ ∀ k, k < M.1 → ∃ w, ws[k]? = some (ad k, w) ∧ zrl ad tys (M.2.2 k) w
def zFit (M : zM) : Prop := ∀ (k n : Nat) (f : Nat → Int32), M.2.2 k = .inl (1, n, .inl f) → ∀ j, fits .byte (.int (f j)) = true
theorem zWs.ent {ad : Nat → Nat} {M : zM} {ws : va_W} {tys : List (ClassId × FieldType)} (h : zWs ad M ws tys) {a : Nat} {e : zE} (he : zob M a = some e) : ∃ w, ws[a]? = some (ad a, w) ∧ zrl ad tys e w ∧ a < M.1 := by
  unfold zob at he
  by_cases ha : a < M.1
  · rw [if_pos ha] at he
    cases he
    obtain ⟨w, h1, h2⟩ := h.2 a ha
    exact ⟨w, h1, h2, ha⟩
  · rw [if_neg ha] at he; cases he
theorem zWs.setD {ad : Nat → Nat} {M : zM} {ws : va_W} {tys : List (ClassId × FieldType)} (h : zWs ad M ws tys) {a : Nat} {e : zE} {w : va_E} (ha : a < M.1) (hw : zrl ad tys e w) : zWs ad (zset M a e) (ws.set a (ad a, w)) tys := by
  refine ⟨by rw [List.length_set]; exact h.1, fun k hk => ?_⟩
  have hk' : k < M.1 := hk
  by_cases q : k = a
  · subst q
    refine ⟨w, by rw [List.getElem?_set_self (by rw [h.1]; exact hk')], ?_⟩
    show zrl ad tys (va_up M.2.2 k e k) w
    unfold va_up
    rw [if_pos rfl]
    exact hw
  · obtain ⟨v, h1, h2⟩ := h.2 k hk'
    refine ⟨v, by rw [List.getElem?_set_ne (fun z => q z.symm)]; exact h1, ?_⟩
    show zrl ad tys (va_up M.2.2 a e k) v
    unfold va_up
    rw [if_neg q]
    exact h2
theorem zWs.push {ad : Nat → Nat} {M : zM} {ws : va_W} {tys t2 : List (ClassId × FieldType)} (h : zWs ad M ws tys) {e : zE} {w : va_E} (hw : zrl ad (tys ++ t2) e w) : zWs ad (zpush M e) (ws ++ [(ad M.1, w)]) (tys ++ t2) := by
  refine ⟨by rw [List.length_append, h.1]; rfl, fun k hk => ?_⟩
  have hk' : k < M.1 + 1 := hk
  by_cases q : k = M.1
  · subst q
    refine ⟨w, by rw [List.getElem?_append_right (by rw [h.1]; exact Nat.le_refl _), h.1, Nat.sub_self]; rfl, ?_⟩
    show zrl ad _ (va_up M.2.2 M.1 e M.1) w
    unfold va_up
    rw [if_pos rfl]
    exact hw
  · obtain ⟨v, h1, h2⟩ := h.2 k (by omega)
    refine ⟨v, by rw [List.getElem?_append_left (by rw [h.1]; omega)]; exact h1, ?_⟩
    show zrl ad _ (va_up M.2.2 M.1 e k) v
    unfold va_up
    rw [if_neg q]
    exact h2.more
theorem zWs.D {base : Nat} {ex : Nat → Nat} {M : zM} {ws : va_W} {tys : List (ClassId × FieldType)} (h : zWs (zad base ex) M ws tys) (hM : M.1 ≤ 1000000) : va_D (zA base) ws := by
  have key : ∀ (i : Nat) (p : Nat × va_E), ws[i]? = some p → p.1 = base + i := by
    intro i p hp
    have hi : i < M.1 := by rw [← h.1]; exact (List.getElem?_eq_some_iff.mp hp).1
    obtain ⟨w, h1, -⟩ := h.2 i hi
    rw [hp] at h1
    cases h1
    show zad base ex i = base + i
    unfold zad
    rw [if_pos (by omega)]
  refine ⟨fun i j p q hp hq he => ?_, fun k q hq => ?_⟩
  · have h1 := key i p hp
    have h2 := key j q hq
    omega
  · have h1 := key k q hq
    show base ≤ q.1
    omega
theorem zfit_cv {ad : Nat → Nat} {ty : FieldType} {v : Value} (h : zfit ty v = true) : narrow ty (zcv ad v) = zcv ad v ∧ fits ty (zcv ad v) = true := by
  unfold zfit at h
  simp only [Bool.and_eq_true, decide_eq_true_eq] at h
  cases v with
  | ref a =>
    refine ⟨?_, ?_⟩
    · cases ty <;> rfl
    · have := h.2
      cases ty <;> first | rfl | (simp [fits] at this)
  | _ => exact h
theorem zcs_get {ad : Nat → Nat} {fs : List Value} {k : Nat} {v : Value} (h : fs[k]? = some v) : (zcs ad fs)[k]? = some (zcv ad v) := by
  unfold zcs
  rw [List.getElem?_map, h]
  rfl
theorem zcs_set {ad : Nat → Nat} {fs : List Value} {k : Nat} {v : Value} : (zcs ad fs).set k (zcv ad v) = zcs ad (fs.set k v) := by
  unfold zcs
  rw [List.map_set]
theorem zcs_len {ad : Nat → Nat} {fs : List Value} : (zcs ad fs).length = fs.length := by simp [zcs]
theorem zcv_rf {ad : Nat → Nat} (r : Option Nat) : zcv ad (zrf r) = va_rf (r.map ad) := by cases r <;> rfl
theorem zcs_def {ad : Nat → Nat} (ci n : Nat) : zcs ad (zdef ci n) = zdef ci n := by
  unfold zcs zdef
  rw [List.map_map]
  refine congrArg (fun f => List.map f (List.range n)) (funext fun k => ?_)
  show zcv ad (defaultValue (zfty ci k)) = defaultValue (zfty ci k)
  cases zfty ci k <;> rfl
theorem zdef_get {ci n j : Nat} (h : j < n) : defaultValue (zfty ci j) = vp_V (zdef ci n) j := by
  unfold vp_V zdef
  rw [List.getD_eq_getElem?_getD, List.getElem?_map, List.getElem?_range h]
  rfl
theorem zdef_len (ci n : Nat) : (zdef ci n).length = n := by simp [zdef]
theorem zFit.set {M : zM} (h : zFit M) {a : Nat} {e : zE} (he : ∀ (n : Nat) (f : Nat → Int32), e = .inl (1, n, .inl f) → ∀ j, fits .byte (.int (f j)) = true) : zFit (zset M a e) := by
  intro k n f hk
  by_cases q : k = a
  · subst q
    have hk : va_up M.2.2 k e k = .inl (1, n, .inl f) := hk
    unfold va_up at hk
    rw [if_pos rfl] at hk
    exact he n f hk
  · have hk : va_up M.2.2 a e k = .inl (1, n, .inl f) := hk
    unfold va_up at hk
    rw [if_neg q] at hk
    exact h k n f hk
theorem zFit.push {M : zM} (h : zFit M) {e : zE} (he : ∀ (n : Nat) (f : Nat → Int32), e = .inl (1, n, .inl f) → ∀ j, fits .byte (.int (f j)) = true) : zFit (zpush M e) := by
  intro k n f hk
  by_cases q : k = M.1
  · subst q
    have hk : va_up M.2.2 M.1 e M.1 = .inl (1, n, .inl f) := hk
    unfold va_up at hk
    rw [if_pos rfl] at hk
    exact he n f hk
  · have hk : va_up M.2.2 M.1 e k = .inl (1, n, .inl f) := hk
    unfold va_up at hk
    rw [if_neg q] at hk
    exact h k n f hk
theorem znar_byte (x : Int32) : fits .byte (.int (vp_nar .byte x)) = true := by
  rw [vp_nar_byte]
  simp only [fits, Bool.and_eq_true, decide_eq_true_eq]
  have h1 : x.toInt8.toInt32.toInt = x.toInt8.toInt := Int8.toInt_toInt32 _
  have h2 := Int8.le_toInt x.toInt8
  have h3 := Int8.toInt_lt x.toInt8
  constructor
  · rw [Int32.le_iff_toInt_le, h1]
    have : (-128 : Int32).toInt = -128 := by decide
    omega
  · rw [Int32.le_iff_toInt_le, h1]
    have : (127 : Int32).toInt = 127 := by decide
    omega
/-- what lay there before: the script, the static rows of bytes, the strings, and the tables' words of the nest -/
def zExt (base : Nat) (ex : Nat → Nat) (X : zX) (U : State) (H : Heap) : Prop :=
  va_X (ex 16) X.1 X.2.1 U H ∧ ex 16 < base ∧
  (va_T .byte (ex 13) 172 (fun j => .int (zTAKES.getD j 0)) (zA base) U H ∧ va_Z "ForthHouse" "TAKES" "[B" (.ref (ex 13)) (zA base) U H) ∧
  (va_T .byte (ex 14) 172 (fun j => .int (zLEAVES.getD j 0)) (zA base) U H ∧ va_Z "ForthHouse" "LEAVES" "[B" (.ref (ex 14)) (zA base) U H) ∧
  (va_T .byte (ex 15) 172 (fun j => .int (zTRAITS.getD j 0)) (zA base) U H ∧ va_Z "ForthHouse" "TRAITS" "[B" (.ref (ex 15)) (zA base) U H) ∧
  (∀ w ∈ zN, va_Nw w U) ∧ va_AO "ForthHouse$Forth" U ∧ va_AO "ForthHouse$Task" U ∧
  (∀ o k r, o < 21 → zlk o k = some r → r.1 = 7 → ∃ tx, vk_R (zown o) k tx (ex r.2.1) U) ∧
  vk_S 13 (zstr.map List.length) zstr ex (fun i => ex (20 + i)) (zA base) U H ∧ va_Z "java/lang/String" "COMPACT_STRINGS" "Z" (.int 1) (zA base) U H ∧
  va_Z "jdk/internal/util/Preconditions" "SIOOBE_FORMATTER" "Ljava/util/function/BiFunction;" (if X.2.2 = 0 then .null else .ref (ex 40)) (zA base) U H
/-- the world at a place within a method that began at s -/
def zMid (base : Nat) (ex : Nat → Nat) (dC : Nat → ClassId) (dI : Nat → Nat → Nat) (s : State) (M : zM) (H : Heap) (locs : List Loc) : Prop :=
  M.1 ≤ 1000000 ∧ base ≤ s.heap.size ∧ va_S (zA base) s.heap H locs ∧ zFit M ∧ ∃ ws tys, zWs (zad base ex) M ws tys ∧ va_P (dC, dI) zcls ws H ∧ va_K (dC, dI) zcls tys s
section ZS1
variable {p : Program} {l : Launch} {e : Env} {R : Room} {s : State} {m : MethodId} {args : Array Value} {below : List Frame} {meth : Method} {c : Code} {H : Heap} {locs : List Loc} {cells slots : Nat} {Q : State → Prop} {cc : ByteArray} {base : Nat} {ex : Nat → Nat} {dC : Nat → ClassId} {dI : Nat → Nat → Nat} {X : zX} {own : Nat} {ini : Bool} {pc nL len pc' c0 s0 : Nat} {i : Instr} {ls ls' : zL} {st st' : List Value} {M M' : zM} {L : Array Slot}
theorem W.size (k : H.size ≤ s.heap.size + cells → W p l e R s m args below meth c H locs cells slots Q (F0 m pc L st)) : W p l e R s m args below meth c H locs cells slots Q (F0 m pc L st) := fun T hT Y => k (by rw [← hT]; exact Y.heapSize) T hT Y
/-- what stands throughout a method -/
def zCtx (p : Program) (s : State) (m : MethodId) (args : Array Value) (meth : Method) (c : Code) (R : Room) (cc : ByteArray) (base : Nat) (ex : Nat → Nat) (X : zX) (own : Nat) (ini : Bool) (nL c0 : Nat) : Prop :=
  p.tables.exec = Jvm.exec ∧ c.code = cc ∧ s.vm.findClass (zown own) = some m.cls ∧ own < 21 ∧ (∀ w ∈ zW, w.before args s = true) ∧ zExt base ex X s s.heap ∧ (ini = true → meth.name = "<init>") ∧ c.maxLocals = nL ∧ 1 ≤ R.frames ∧ 200 ≤ R.locals ∧ s.heap.size = base + c0
/-- goes on, the world being M' -/
def zGo (p : Program) (l : Launch) (e : Env) (R : Room) (s : State) (m : MethodId) (args : Array Value) (below : List Frame) (meth : Method) (c : Code) (Q : State → Prop) (base : Nat) (ex : Nat → Nat) (dC : Nat → ClassId) (dI : Nat → Nat → Nat) (nL c0 s0 : Nat) (pc : Nat) (ls : zL) (st : List Value) (M : zM) : Prop :=
  ∀ (L : Array Slot) (H : Heap) (locs : List Loc) (cells slots : Nat), cells + c0 = M.1 → slots + s0 = M.2.1 → lv_has L nL (zcl (zad base ex) ls) → zMid base ex dC dI s M H locs → W p l e R s m args below meth c H locs cells slots Q (F0 m pc L (zcs (zad base ex) st))
theorem zMid.write {a : Nat} {e : zE} {w : va_E} {ws : va_W} {tys : List (ClassId × FieldType)} {H1 : Heap} {locs1 : List Loc} (h1 : M.1 ≤ 1000000) (h2 : base ≤ s.heap.size) (hF : zFit M) (hR : zWs (zad base ex) M ws tys) (hK : va_K (dC, dI) zcls tys s) (ha : a < M.1) (hw : zrl (zad base ex) tys e w) (he : ∀ (n : Nat) (f : Nat → Int32), e = .inl (1, n, .inl f) → ∀ j, fits .byte (.int (f j)) = true)
    (hP : va_P (dC, dI) zcls (ws.set a (zad base ex a, w)) H1) (hS : va_S (zA base) s.heap H1 locs1) : zMid base ex dC dI s (zset M a e) H1 locs1 :=
  ⟨h1, h2, hS, hF.set he, _, _, hR.setD ha hw, hP, hK⟩
theorem z_getfield {x : Nat} (C : zCtx p s m args meth c R cc base ex X own ini nL c0) (hd : decode cc pc = .ok (.getfield x, 3)) (h : zs1 X own ini pc ls st M (.getfield x) = some (pc', ls', st', M')) (hl : lv_has L nL (zcl (zad base ex) ls)) (hM : zMid base ex dC dI s M H locs) (hcc : cells + c0 = M.1) (hss : slots + s0 = M.2.1)
    (kk : zGo p l e R s m args below meth c Q base ex dC dI nL c0 s0 pc' ls' st' M') : W p l e R s m args below meth c H locs cells slots Q (F0 m pc L (zcs (zad base ex) st)) := by
  obtain ⟨hx, hb, hown, ho, hts, hE, hini, hml, hRf, hRl, hs0⟩ := id C
  simp only [zs1] at h
  split at h
  · rename_i ci k q hlk
    split at h
    · rename_i a r
      split at h
      · rename_i cj fs he
        split at h
        · rename_i hc
          subst hc
          split at h
          · rename_i v hv
            cases h
            obtain ⟨h1, h2, hS, hF, ws, tys, hR, hP, hK⟩ := id hM
            obtain ⟨w, hw, hrl, hlt⟩ := hR.ent he
            have hw' : w = .inr (cj, zcs (zad base ex) fs) := hrl
            subst hw'
            obtain ⟨Cn, T, N, hcl, hkN, hlw⟩ := z_lk0 ho hlk
            exact va_get hx hb hts (zcls_ok _ _ hcl).1 hown hK hP a hw hcl k hkN (hts _ hlw) (fun _ h => h) (zcs_get hv) hd (kk L H locs cells slots hcc hss hl hM)
          · cases h
        · cases h
      · cases h
    · cases h
  · cases h
theorem z_putfield {x : Nat} (C : zCtx p s m args meth c R cc base ex X own ini nL c0) (hd : decode cc pc = .ok (.putfield x, 3)) (h : zs1 X own ini pc ls st M (.putfield x) = some (pc', ls', st', M')) (hl : lv_has L nL (zcl (zad base ex) ls)) (hM : zMid base ex dC dI s M H locs) (hcc : cells + c0 = M.1) (hss : slots + s0 = M.2.1)
    (kk : zGo p l e R s m args below meth c Q base ex dC dI nL c0 s0 pc' ls' st' M') : W p l e R s m args below meth c H locs cells slots Q (F0 m pc L (zcs (zad base ex) st)) := by
  obtain ⟨hx, hb, hown, ho, hts, hE, hini, hml, hRf, hRl, hs0⟩ := id C
  simp only [zs1] at h
  split at h
  · rename_i ci k q hlk
    split at h
    · rename_i v a r
      split at h
      · rename_i cj fs he
        split at h
        · rename_i qq hq
          split at h
          · rename_i hc
            obtain ⟨hc, hk, hkN, hfit, hfin⟩ := hc
            subst hc
            cases h
            obtain ⟨h1, h2, hS, hF, ws, tys, hR, hP, hK⟩ := id hM
            obtain ⟨w, hw, hrl, hlt⟩ := hR.ent he
            have hw' : w = .inr (cj, zcs (zad base ex) fs) := hrl
            subst hw'
            obtain ⟨Cn, T, N, hcl, -, hlw⟩ := z_lk0 ho hlk
            rw [hcl] at hq
            cases hq
            obtain ⟨hf1, hf2⟩ := zfit_cv (ad := zad base ex) hfit
            obtain ⟨z1, z2, z3⟩ := zcls_ok _ _ hcl
            have fin : ∀ (H1 : Heap) (locs1 : List Loc), va_P (dC, dI) zcls (ws.set a (zad base ex a, .inr (cj, (zcs (zad base ex) fs).set k (zcv (zad base ex) v)))) H1 → va_D (zA base) (ws.set a (zad base ex a, .inr (cj, (zcs (zad base ex) fs).set k (zcv (zad base ex) v)))) → va_S (zA base) s.heap H1 locs1 → W p l e R s m args below meth c H1 locs1 cells slots Q (F0 m (pc + 3) L (zcs (zad base ex) st')) := by
              intro H1 locs1 hP1 hD1 hS1
              rw [zcs_set] at hP1
              exact kk L H1 locs1 cells slots hcc hss hl (zMid.write h1 h2 hF hR hK hlt rfl (fun n f hz => by cases hz) hP1 hS1)
            by_cases hb2 : (T k).2.2.2 = false
            · exact va_put hx hb hts z1 _ z2 z3 hown hK hP (hR.D h1) hS a hw hcl k hkN (hts _ hlw) (fun _ h => h) hb2 (z2 k hkN) hf1 hf2 (by rw [zcs_len]; exact hk) hd fin
            · rcases hfin with hfin | ⟨hfin, hdecl⟩
              · exact absurd hfin hb2
              · exact va_putF hx hb hts z1 _ z2 z3 hown hK hP (hR.D h1) hS a hw hcl k hkN (hts _ hlw) (fun _ h => h) (by simpa using hb2) (hini hfin) hdecl (z2 k hkN) hf1 hf2 (by rw [zcs_len]; exact hk) hd fin
          · cases h
        · cases h
      · cases h
    · cases h
  · cases h
theorem zad_out (base : Nat) (ex : Nat → Nat) (k : Nat) : zad base ex (1000000 + k) = ex k := by
  unfold zad
  rw [if_neg (by omega), Nat.add_sub_cancel_left]
theorem z_iaload (C : zCtx p s m args meth c R cc base ex X own ini nL c0) (hd : decode cc pc = .ok (.iaload, 1)) (h : zs1 X own ini pc ls st M .iaload = some (pc', ls', st', M')) (hl : lv_has L nL (zcl (zad base ex) ls)) (hM : zMid base ex dC dI s M H locs) (hcc : cells + c0 = M.1) (hss : slots + s0 = M.2.1)
    (kk : zGo p l e R s m args below meth c Q base ex dC dI nL c0 s0 pc' ls' st' M') : W p l e R s m args below meth c H locs cells slots Q (F0 m pc L (zcs (zad base ex) st)) := by
  obtain ⟨hx, hb, hown, ho, hts, hE, hini, hml, hRf, hRl, hs0⟩ := id C
  obtain ⟨h1, h2, hS, hF, ws, tys, hR, hP, hK⟩ := id hM
  simp only [zs1] at h
  split at h
  · rename_i j a r
    split at h
    · rename_i ha
      split at h
      · cases h
      · rename_i hin
        have hin : vp_in j X.1 := fun q => hin (by rcases q with q | q
                                                   · exact Or.inl q
                                                   · exact Or.inr (Or.inl q))
        cases h
        subst ha
        have hXs := hE.1
        have hbl : ex 16 < s.heap.size := Nat.lt_of_lt_of_le hE.2.1 h2
        have := va_sld (Q := Q) (ls := L) (rest := zcs (zad base ex) r) hx hb hXs hbl (Nat.not_le.mpr hE.2.1) hS (i := j) hin hd (kk L H locs cells slots hcc hss hl hM)
        rw [← zad_out base ex 16] at this
        exact this
    · split at h
      · rename_i n f he
        split at h
        · cases h
        · rename_i hin
          cases h
          obtain ⟨w, hw, ⟨cA, t0, ht, hrl⟩, hlt⟩ := hR.ent he
          subst hrl
          exact va_iald hx hb hK hP a t0 hw ht hin hd (kk L H locs cells slots hcc hss hl hM)
      · cases h
  · cases h
theorem zstat_ok {base : Nat} {ex : Nat → Nat} {X : zX} {U : State} {Hp : Heap} (hE : zExt base ex X U Hp) {a : Nat} {q : List Int32} (h : zstat a = some q) : q.length = 172 ∧ va_T .byte (zad base ex a) 172 (fun j => .int (q.getD j 0)) (zA base) U Hp := by
  obtain ⟨-, -, ⟨e1, -⟩, ⟨e2, -⟩, ⟨e3, -⟩, -⟩ := hE
  unfold zstat at h
  split at h
  · rename_i q1
    cases h
    subst q1
    exact ⟨by decide +kernel, (zad_out base ex 13).symm ▸ e1⟩
  · split at h
    · rename_i q1
      cases h
      subst q1
      exact ⟨by decide +kernel, (zad_out base ex 14).symm ▸ e2⟩
    · split at h
      · rename_i q1
        cases h
        subst q1
        exact ⟨by decide +kernel, (zad_out base ex 15).symm ▸ e3⟩
      · cases h
theorem z_baload (C : zCtx p s m args meth c R cc base ex X own ini nL c0) (hd : decode cc pc = .ok (.baload, 1)) (h : zs1 X own ini pc ls st M .baload = some (pc', ls', st', M')) (hl : lv_has L nL (zcl (zad base ex) ls)) (hM : zMid base ex dC dI s M H locs) (hcc : cells + c0 = M.1) (hss : slots + s0 = M.2.1)
    (kk : zGo p l e R s m args below meth c Q base ex dC dI nL c0 s0 pc' ls' st' M') : W p l e R s m args below meth c H locs cells slots Q (F0 m pc L (zcs (zad base ex) st)) := by
  obtain ⟨hx, hb, hown, ho, hts, hE, hini, hml, hRf, hRl, hs0⟩ := id C
  obtain ⟨h1, h2, hS, hF, ws, tys, hR, hP, hK⟩ := id hM
  simp only [zs1] at h
  split at h
  · rename_i j a r
    split at h
    · rename_i q hq
      split at h
      · cases h
      · rename_i hin
        cases h
        obtain ⟨z1, z2⟩ := zstat_ok hE hq
        rw [z1] at hin
        exact va_tb hx hb z2 hS hin rfl hd (kk L H locs cells slots hcc hss hl hM)
    · split at h
      · rename_i n f he
        split at h
        · cases h
        · rename_i hin
          cases h
          obtain ⟨w, hw, ⟨cA, t0, ht, hrl⟩, hlt⟩ := hR.ent he
          subst hrl
          exact va_bald hx hb hK hP a t0 hw ht hin hd (kk L H locs cells slots hcc hss hl hM)
      · rename_i n f he
        split at h
        · cases h
        · rename_i hin
          cases h
          obtain ⟨w, hw, ⟨cA, t0, ht, hrl⟩, hlt⟩ := hR.ent he
          subst hrl
          exact va_zald hx hb hK hP a t0 hw ht hin hd (kk L H locs cells slots hcc hss hl hM)
      · cases h
  · cases h
theorem zty_obj {t : Nat} (h : ¬ t < 3) : ∃ C : String, zty t = .object C := by
  match t, h with
  | 0, h => exact absurd (by decide) h
  | 1, h => exact absurd (by decide) h
  | 2, h => exact absurd (by decide) h
  | 3, _ => exact ⟨_, rfl⟩
  | k + 4, _ => exact ⟨_, rfl⟩
theorem z_aaload (C : zCtx p s m args meth c R cc base ex X own ini nL c0) (hd : decode cc pc = .ok (.aaload, 1)) (h : zs1 X own ini pc ls st M .aaload = some (pc', ls', st', M')) (hl : lv_has L nL (zcl (zad base ex) ls)) (hM : zMid base ex dC dI s M H locs) (hcc : cells + c0 = M.1) (hss : slots + s0 = M.2.1)
    (kk : zGo p l e R s m args below meth c Q base ex dC dI nL c0 s0 pc' ls' st' M') : W p l e R s m args below meth c H locs cells slots Q (F0 m pc L (zcs (zad base ex) st)) := by
  obtain ⟨hx, hb, hown, ho, hts, hE, hini, hml, hRf, hRl, hs0⟩ := id C
  obtain ⟨h1, h2, hS, hF, ws, tys, hR, hP, hK⟩ := id hM
  simp only [zs1] at h
  split at h
  · rename_i j a r
    split at h
    · rename_i t n f he
      split at h
      · cases h
      · rename_i hc
        cases h
        obtain ⟨w, hw, ⟨cA, t0, ht, hrl⟩, hlt⟩ := hR.ent he
        subst hrl
        obtain ⟨Cn, hty⟩ := zty_obj (fun q => hc (Or.inl q))
        rw [hty] at ht
        have hin : vp_in j n := fun q => hc (Or.inr q)
        have hgo := kk L H locs cells slots hcc hss hl hM
        rw [zcs_cons, zcv_rf] at hgo
        exact va_aldq hx hb hK hP a t0 hw ht hin hd hgo
    · cases h
  · cases h
theorem z_iastore (C : zCtx p s m args meth c R cc base ex X own ini nL c0) (hd : decode cc pc = .ok (.iastore, 1)) (h : zs1 X own ini pc ls st M .iastore = some (pc', ls', st', M')) (hl : lv_has L nL (zcl (zad base ex) ls)) (hM : zMid base ex dC dI s M H locs) (hcc : cells + c0 = M.1) (hss : slots + s0 = M.2.1)
    (kk : zGo p l e R s m args below meth c Q base ex dC dI nL c0 s0 pc' ls' st' M') : W p l e R s m args below meth c H locs cells slots Q (F0 m pc L (zcs (zad base ex) st)) := by
  obtain ⟨hx, hb, hown, ho, hts, hE, hini, hml, hRf, hRl, hs0⟩ := id C
  obtain ⟨h1, h2, hS, hF, ws, tys, hR, hP, hK⟩ := id hM
  simp only [zs1] at h
  split at h
  · rename_i x j a r
    split at h
    · rename_i n f he
      split at h
      · cases h
      · rename_i hin
        cases h
        obtain ⟨w, hw, ⟨cA, t0, ht, hrl⟩, hlt⟩ := hR.ent he
        subst hrl
        exact va_iast hx hb hK hP (hR.D h1) hS a t0 hw ht hin hd (fun H1 locs1 hP1 hD1 hS1 => kk L H1 locs1 cells slots hcc hss hl (zMid.write h1 h2 hF hR hK hlt ⟨cA, t0, ht, rfl⟩ (fun n f hz => by cases hz) hP1 hS1))
    · cases h
  · cases h
theorem z_bastore (C : zCtx p s m args meth c R cc base ex X own ini nL c0) (hd : decode cc pc = .ok (.bastore, 1)) (h : zs1 X own ini pc ls st M .bastore = some (pc', ls', st', M')) (hl : lv_has L nL (zcl (zad base ex) ls)) (hM : zMid base ex dC dI s M H locs) (hcc : cells + c0 = M.1) (hss : slots + s0 = M.2.1)
    (kk : zGo p l e R s m args below meth c Q base ex dC dI nL c0 s0 pc' ls' st' M') : W p l e R s m args below meth c H locs cells slots Q (F0 m pc L (zcs (zad base ex) st)) := by
  obtain ⟨hx, hb, hown, ho, hts, hE, hini, hml, hRf, hRl, hs0⟩ := id C
  obtain ⟨h1, h2, hS, hF, ws, tys, hR, hP, hK⟩ := id hM
  simp only [zs1] at h
  split at h
  · rename_i x j a r
    split at h
    · rename_i n f he
      split at h
      · cases h
      · rename_i hin
        cases h
        obtain ⟨w, hw, ⟨cA, t0, ht, hrl⟩, hlt⟩ := hR.ent he
        subst hrl
        have hfit : ∀ k, fits .byte (.int (f k)) = true := by
          unfold zob at he
          rw [if_pos hlt] at he
          exact hF a n f (Option.some.inj he)
        refine va_bast hx hb hK hP (hR.D h1) hS a t0 hw ht hin hd (fun H1 locs1 hP1 hD1 hS1 => kk L H1 locs1 cells slots hcc hss hl (zMid.write h1 h2 hF hR hK hlt ⟨cA, t0, ht, rfl⟩ (fun n2 f2 hz k => ?_) hP1 hS1))
        cases hz
        unfold upd
        split
        · exact znar_byte x
        · exact hfit k
    · rename_i n f he
      split at h
      · cases h
      · rename_i hin
        cases h
        obtain ⟨w, hw, ⟨cA, t0, ht, hrl⟩, hlt⟩ := hR.ent he
        subst hrl
        exact va_zast hx hb hK hP (hR.D h1) hS a t0 hw ht hin hd (fun H1 locs1 hP1 hD1 hS1 => kk L H1 locs1 cells slots hcc hss hl (zMid.write h1 h2 hF hR hK hlt ⟨cA, t0, ht, rfl⟩ (fun n f hz => by cases hz) hP1 hS1))
    · cases h
  · cases h
theorem zup_map {ad : Nat → Nat} (f : Nat → Option Nat) (j v : Nat) : (fun k => (va_up f j (some v) k).map ad) = va_up (fun k => (f k).map ad) j (some (ad v)) := by
  funext k
  unfold va_up
  split <;> rfl
theorem z_aastore (C : zCtx p s m args meth c R cc base ex X own ini nL c0) (hd : decode cc pc = .ok (.aastore, 1)) (h : zs1 X own ini pc ls st M .aastore = some (pc', ls', st', M')) (hl : lv_has L nL (zcl (zad base ex) ls)) (hM : zMid base ex dC dI s M H locs) (hcc : cells + c0 = M.1) (hss : slots + s0 = M.2.1)
    (kk : zGo p l e R s m args below meth c Q base ex dC dI nL c0 s0 pc' ls' st' M') : W p l e R s m args below meth c H locs cells slots Q (F0 m pc L (zcs (zad base ex) st)) := by
  obtain ⟨hx, hb, hown, ho, hts, hE, hini, hml, hRf, hRl, hs0⟩ := id C
  obtain ⟨h1, h2, hS, hF, ws, tys, hR, hP, hK⟩ := id hM
  simp only [zs1] at h
  split at h
  · rename_i v j a r
    split at h
    · rename_i t n f he
      split at h
      · rename_i ci fs hv
        split at h
        · rename_i q hq
          split at h
          · cases h
          · rename_i hc
            cases h
            obtain ⟨w, hw, ⟨cA, t0, ht, hrl⟩, hlt⟩ := hR.ent he
            subst hrl
            obtain ⟨w2, hw2, hrl2, hlt2⟩ := hR.ent hv
            have hrl2 : w2 = .inr (ci, zcs (zad base ex) fs) := hrl2
            subst hrl2
            have hty : zty t = .object q.1 := by
              by_cases z : zty t = .object q.1
              · exact z
              · exact absurd (Or.inr (Or.inr (Or.inr z))) hc
            have hin : vp_in j n := fun z => hc (by rcases z with z | z
                                                    · exact Or.inr (Or.inl z)
                                                    · exact Or.inr (Or.inr (Or.inl z)))
            have ht2 := ht
            rw [hty] at ht
            refine va_astq hx hb hK hP (hR.D h1) hS a t0 v ci hw ht hw2 hq hin hd (fun H1 locs1 hP1 hD1 hS1 => ?_)
            rw [← zup_map] at hP1
            exact kk L H1 locs1 cells slots hcc hss hl (zMid.write h1 h2 hF hR hK hlt ⟨cA, t0, ht2, rfl⟩ (fun n f hz => by cases hz) hP1 hS1)
        · cases h
      · cases h
    · cases h
  · cases h
theorem z_arraylength (C : zCtx p s m args meth c R cc base ex X own ini nL c0) (hd : decode cc pc = .ok (.arraylength, 1)) (h : zs1 X own ini pc ls st M .arraylength = some (pc', ls', st', M')) (hl : lv_has L nL (zcl (zad base ex) ls)) (hM : zMid base ex dC dI s M H locs) (hcc : cells + c0 = M.1) (hss : slots + s0 = M.2.1)
    (kk : zGo p l e R s m args below meth c Q base ex dC dI nL c0 s0 pc' ls' st' M') : W p l e R s m args below meth c H locs cells slots Q (F0 m pc L (zcs (zad base ex) st)) := by
  obtain ⟨hx, hb, hown, ho, hts, hE, hini, hml, hRf, hRl, hs0⟩ := id C
  obtain ⟨h1, h2, hS, hF, ws, tys, hR, hP, hK⟩ := id hM
  simp only [zs1] at h
  split at h
  · rename_i a r
    split at h
    · rename_i ha
      split at h
      · cases h
        subst ha
        have hXs := hE.1
        have hbl : ex 16 < s.heap.size := Nat.lt_of_lt_of_le hE.2.1 h2
        have := va_slen (Q := Q) (ls := L) (rest := zcs (zad base ex) r) hx hb hXs hbl (Nat.not_le.mpr hE.2.1) hS hd (kk L H locs cells slots hcc hss hl hM)
        rw [← zad_out base ex 16] at this
        exact this
      · cases h
    · split at h
      · rename_i t x he
        cases h
        obtain ⟨w, hw, ⟨cA, t0, ht, hrl⟩, hlt⟩ := hR.ent he
        subst hrl
        exact va_alen hx hb hK hP a t0 hw ht (by rw [zcA_1]) hd (kk L H locs cells slots hcc hss hl hM)
      · cases h
  · cases h
theorem z_fresh {q : Nat} {w : va_E} {ws : va_W} {tys : List (ClassId × FieldType)} {H1 : Heap} (hP1 : va_P (dC, dI) zcls (ws ++ [(q, w)]) H1) (hD1 : va_D (zA base) (ws ++ [(q, w)])) (hR : zWs (zad base ex) M ws tys) (hM1 : M.1 < 1000000) (hsz : H1.size ≤ base + (M.1 + 1)) : q = zad base ex M.1 := by
  have hat : (ws ++ [(q, w)])[M.1]? = some (q, w) := by
    rw [List.getElem?_append_right (by rw [hR.1]; exact Nat.le_refl _), hR.1, Nat.sub_self]
    rfl
  have h1 : q < H1.size := (hP1 M.1 (q, w) hat).lt
  have h2 : base ≤ q := hD1.2 M.1 (q, w) hat
  unfold zad
  rw [if_pos hM1]
  by_cases h3 : q = base + M.1
  · exact h3
  · exfalso
    have hk : q - base < M.1 := by omega
    obtain ⟨v, hv, -⟩ := hR.2 (q - base) hk
    have hz : zad base ex (q - base) = q := by
      unfold zad
      rw [if_pos (by omega)]
      omega
    rw [hz] at hv
    have hv2 : (ws ++ [(q, w)])[q - base]? = some (q, v) := by
      rw [List.getElem?_append_left (by rw [hR.1]; exact hk)]
      exact hv
    have := hD1.1 (q - base) M.1 (q, v) (q, w) hv2 hat rfl
    omega
theorem zMid.new {e : zE} {w : va_E} {ws : va_W} {tys t2 : List (ClassId × FieldType)} {H1 : Heap} {locs1 : List Loc} (h2 : base ≤ s.heap.size) (hF : zFit M) (hR : zWs (zad base ex) M ws tys) (hK : va_K (dC, dI) zcls (tys ++ t2) s) (hM1 : M.1 < 1000000) (hw : zrl (zad base ex) (tys ++ t2) e w) (he : ∀ (n : Nat) (f : Nat → Int32), e = .inl (1, n, .inl f) → ∀ j, fits .byte (.int (f j)) = true)
    (hP : va_P (dC, dI) zcls (ws ++ [(zad base ex M.1, w)]) H1) (hS : va_S (zA base) s.heap H1 locs1) : zMid base ex dC dI s (zpush M e) H1 locs1 :=
  ⟨hM1, h2, hS, hF.push he, _, _, hR.push hw, hP, hK⟩
theorem zatype_ok {t : ArrayType} {k : Nat} (h : zatype t = some k) : newarray.typeOf t = zty k ∧ (Cond.arrayClass (newarray.typeOf t)) ∈ zW ∧ ∀ (cA : ClassId) (n : Nat), vp_cell cA (n, .inl (fun _ => 0)) = arrV cA n (fun _ => defaultValue (zty k)) := by
  cases t <;> simp only [zatype, Option.some.injEq, reduceCtorEq] at h <;> subst h
  · exact ⟨rfl, zw_arr2, fun _ _ => rfl⟩
  · exact ⟨rfl, zw_arr1, fun _ _ => rfl⟩
  · exact ⟨rfl, zw_arr0, fun _ _ => rfl⟩
theorem z_newarray {t : ArrayType} (C : zCtx p s m args meth c R cc base ex X own ini nL c0) (hd : decode cc pc = .ok (.newarray t, 2)) (h : zs1 X own ini pc ls st M (.newarray t) = some (pc', ls', st', M')) (hl : lv_has L nL (zcl (zad base ex) ls)) (hM : zMid base ex dC dI s M H locs) (hcc : cells + c0 = M.1) (hss : slots + s0 = M.2.1) (hRc : M'.1 ≤ R.cells + c0) (hRs : M'.2.1 ≤ R.slots + s0)
    (kk : zGo p l e R s m args below meth c Q base ex dC dI nL c0 s0 pc' ls' st' M') : W p l e R s m args below meth c H locs cells slots Q (F0 m pc L (zcs (zad base ex) st)) := by
  obtain ⟨hx, hb, hown, ho, hts, hE, hini, hml, hRf, hRl, hs0⟩ := id C
  obtain ⟨h1, h2, hS, hF, ws, tys, hR, hP, hK⟩ := id hM
  simp only [zs1] at h
  split at h
  · rename_i n r
    split at h
    · rename_i k hk
      split at h
      · cases h
      · rename_i hc
        cases h
        obtain ⟨z1, z2, z3⟩ := zatype_ok hk
        have hM1 : M.1 < 1000000 := by
          by_cases q : M.1 < 1000000
          · exact q
          · exact absurd (Or.inr (Or.inl q)) hc
        have hby : n.toNatClampNeg * componentBytes (zty k) ≤ 536870912 := by
          by_cases q : n.toNatClampNeg * componentBytes (zty k) ≤ 536870912
          · exact q
          · exact absurd (Or.inr (Or.inr q)) hc
        have e1 : (zpush M (.inl (k, n.toNatClampNeg, .inl (fun _ => 0)))).1 = M.1 + 1 := rfl
        have e2 : (zpush M (.inl (k, n.toNatClampNeg, .inl (fun _ => 0)))).2.1 = M.2.1 + n.toNatClampNeg := rfl
        rw [e1] at hRc
        rw [e2] at hRs
        refine va_newa hx hb (hts _ z2) z1 hK hP (hR.D h1) hS (fun q hq => Nat.le_trans h2 hq) (fun cA => z3 cA _) (fun q => hc (Or.inl q)) rfl hby (by omega) (by omega) hd (fun q cA H1 hK1 hP1 hD1 hS1 => ?_)
        refine W.size (fun hsz => ?_)
        have hq := z_fresh hP1 hD1 hR hM1 (by omega)
        subst hq
        refine kk L H1 locs (cells + 1) (slots + n.toNatClampNeg) (by rw [e1]; omega) (by rw [e2]; omega) hl (zMid.new h2 hF hR hK1 hM1 ⟨cA, tys.length, by simp, rfl⟩ (fun n2 f2 hz j => ?_) hP1 hS1)
        cases hz
        rfl
    · cases h
  · cases h
theorem z_lk3 {o x ci b p : Nat} (ho : o < 21) (h : zlk o x = some (3, ci, b, p)) : ∃ q, zcls[ci]? = some q ∧ Cond.classLink (zown o) x q.1 ∈ zW := by
  obtain ⟨w, h1, -⟩ := zlk_ok o ho x _ h (show (3 : Nat) ≠ 7 by decide)
  cases hq : zcls[ci]? with
  | none => simp [zlkw, hq] at h1
  | some q => exact ⟨q, rfl, z_lk ho h (show (3 : Nat) ≠ 7 by decide) (by simp [zlkw, hq]) rfl⟩
theorem z_anewarray {x : Nat} (C : zCtx p s m args meth c R cc base ex X own ini nL c0) (hd : decode cc pc = .ok (.anewarray x, 3)) (h : zs1 X own ini pc ls st M (.anewarray x) = some (pc', ls', st', M')) (hl : lv_has L nL (zcl (zad base ex) ls)) (hM : zMid base ex dC dI s M H locs) (hcc : cells + c0 = M.1) (hss : slots + s0 = M.2.1) (hRc : M'.1 ≤ R.cells + c0) (hRs : M'.2.1 ≤ R.slots + s0)
    (kk : zGo p l e R s m args below meth c Q base ex dC dI nL c0 s0 pc' ls' st' M') : W p l e R s m args below meth c H locs cells slots Q (F0 m pc L (zcs (zad base ex) st)) := by
  obtain ⟨hx, hb, hown, ho, hts, hE, hini, hml, hRf, hRl, hs0⟩ := id C
  obtain ⟨h1, h2, hS, hF, ws, tys, hR, hP, hK⟩ := id hM
  simp only [zs1] at h
  split at h
  · rename_i ci b2 p2 hlk
    split at h
    · rename_i n r
      split at h
      · cases h
      · rename_i hc
        have hM1 : M.1 < 1000000 := by
          by_cases q : M.1 < 1000000
          · exact q
          · exact absurd (Or.inr (Or.inl q)) hc
        have hby : n.toNatClampNeg * 4 ≤ 536870912 := by
          by_cases q : n.toNatClampNeg * 4 ≤ 536870912
          · exact q
          · exact absurd (Or.inr (Or.inr q)) hc
        split at h
        · rename_i hci
          cases h
          subst hci
          have e1 : (zpush M (.inl (3, n.toNatClampNeg, .inr (.inr (.inr (.inr (fun _ => none))))))).1 = M.1 + 1 := rfl
          have e2 : (zpush M (.inl (3, n.toNatClampNeg, .inr (.inr (.inr (.inr (fun _ => none))))))).2.1 = M.2.1 + n.toNatClampNeg := rfl
          rw [e1] at hRc
          rw [e2] at hRs
          obtain ⟨q, hq, hw⟩ := z_lk3 ho hlk
          cases hq
          refine va_newq hx hb hown (C := "ForthHouse$Forth") (hts _ hw) hE.2.2.2.2.2.2.1 hK hP (hR.D h1) hS (fun q hq => Nat.le_trans h2 hq) (fun q => hc (Or.inl q)) rfl hby (by omega) (by omega) hd (fun q cA H1 hK1 hP1 hD1 hS1 => ?_)
          refine W.size (fun hsz => ?_)
          have hq := z_fresh hP1 hD1 hR hM1 (by omega)
          subst hq
          exact kk L H1 locs (cells + 1) (slots + n.toNatClampNeg) (by rw [e1]; omega) (by rw [e2]; omega) hl (zMid.new h2 hF hR hK1 hM1 ⟨cA, tys.length, by simp [zty], rfl⟩ (fun n2 f2 hz j => by cases hz) hP1 hS1)
        · split at h
          · rename_i hci
            cases h
            subst hci
            have e1 : (zpush M (.inl (4, n.toNatClampNeg, .inr (.inr (.inr (.inr (fun _ => none))))))).1 = M.1 + 1 := rfl
            have e2 : (zpush M (.inl (4, n.toNatClampNeg, .inr (.inr (.inr (.inr (fun _ => none))))))).2.1 = M.2.1 + n.toNatClampNeg := rfl
            rw [e1] at hRc
            rw [e2] at hRs
            obtain ⟨q, hq, hw⟩ := z_lk3 ho hlk
            cases hq
            refine va_newq hx hb hown (C := "ForthHouse$Task") (hts _ hw) hE.2.2.2.2.2.2.2.1 hK hP (hR.D h1) hS (fun q hq => Nat.le_trans h2 hq) (fun q => hc (Or.inl q)) rfl hby (by omega) (by omega) hd (fun q cA H1 hK1 hP1 hD1 hS1 => ?_)
            refine W.size (fun hsz => ?_)
            have hq := z_fresh hP1 hD1 hR hM1 (by omega)
            subst hq
            exact kk L H1 locs (cells + 1) (slots + n.toNatClampNeg) (by rw [e1]; omega) (by rw [e2]; omega) hl (zMid.new h2 hF hR hK1 hM1 ⟨cA, tys.length, by simp [zty], rfl⟩ (fun n2 f2 hz j => by cases hz) hP1 hS1)
          · cases h
    · cases h
  · cases h
theorem z_new {x : Nat} (C : zCtx p s m args meth c R cc base ex X own ini nL c0) (hd : decode cc pc = .ok (.new x, 3)) (h : zs1 X own ini pc ls st M (.new x) = some (pc', ls', st', M')) (hl : lv_has L nL (zcl (zad base ex) ls)) (hM : zMid base ex dC dI s M H locs) (hcc : cells + c0 = M.1) (hss : slots + s0 = M.2.1) (hRc : M'.1 ≤ R.cells + c0) (hRs : M'.2.1 ≤ R.slots + s0)
    (kk : zGo p l e R s m args below meth c Q base ex dC dI nL c0 s0 pc' ls' st' M') : W p l e R s m args below meth c H locs cells slots Q (F0 m pc L (zcs (zad base ex) st)) := by
  obtain ⟨hx, hb, hown, ho, hts, hE, hini, hml, hRf, hRl, hs0⟩ := id C
  obtain ⟨h1, h2, hS, hF, ws, tys, hR, hP, hK⟩ := id hM
  simp only [zs1] at h
  split at h
  · rename_i ci b2 p2 hlk
    split at h
    · rename_i q hq
      split at h
      · rename_i hM1
        cases h
        obtain ⟨q2, hq2, hw⟩ := z_lk3 ho hlk
        rw [hq] at hq2
        cases hq2
        obtain ⟨z1, z2, z3⟩ := zcls_ok _ _ hq
        obtain ⟨z4, z5⟩ := zw_cls _ _ hq
        have e1 : (zpush M (.inr (ci, zdef ci q.2.2))).1 = M.1 + 1 := rfl
        have e2 : (zpush M (.inr (ci, zdef ci q.2.2))).2.1 = M.2.1 + q.2.2 := by
          show M.2.1 + (zdef ci q.2.2).length = _
          rw [zdef_len]
        rw [e1] at hRc
        rw [e2] at hRs
        refine va_new (ci := ci) (fs := zdef ci q.2.2) (N := q.2.2) hx hb hts z1 _ z2 hown (hts _ hw) (hts _ z4) (hts _ z5) hK hP (hR.D h1) hS (fun q hq => Nat.le_trans h2 hq) hq (fun j hj => zdef_get hj) (by omega) (by omega) hd (fun q0 H1 hP1 hD1 hS1 => ?_)
        refine W.size (fun hsz => ?_)
        have hq0 := z_fresh hP1 hD1 hR hM1 (by omega)
        subst hq0
        have hK1 : va_K (dC, dI) zcls (tys ++ []) s := by rw [List.append_nil]; exact hK
        exact kk L H1 locs (cells + 1) (slots + q.2.2) (by rw [e1]; omega) (by rw [e2]; omega) hl (zMid.new h2 hF hR hK1 hM1 (show _ = _ by rw [zcs_def]) (fun n2 f2 hz j => by cases hz) hP1 hS1)
      · cases h
    · cases h
  · cases h
theorem z_ldc {x : Nat} (C : zCtx p s m args meth c R cc base ex X own ini nL c0) (hd : decode cc pc = .ok (.ldc x, 2)) (h : zs1 X own ini pc ls st M (.ldc x) = some (pc', ls', st', M')) (hl : lv_has L nL (zcl (zad base ex) ls)) (hM : zMid base ex dC dI s M H locs) (hcc : cells + c0 = M.1) (hss : slots + s0 = M.2.1)
    (kk : zGo p l e R s m args below meth c Q base ex dC dI nL c0 s0 pc' ls' st' M') : W p l e R s m args below meth c H locs cells slots Q (F0 m pc L (zcs (zad base ex) st)) := by
  obtain ⟨hx, hb, hown, ho, hts, hE, hini, hml, hRf, hRl, hs0⟩ := id C
  obtain ⟨h1, h2, hS, hF, ws, tys, hR, hP, hK⟩ := id hM
  simp only [zs1] at h
  split at h
  · rename_i a b2 p2 hlk
    cases h
    exact lv_ldc hx hb hown (hts _ (z_lk ho hlk (show (5 : Nat) ≠ 7 by decide) rfl rfl)) hd (kk L H locs cells slots hcc hss hl hM)
  · rename_i a b2 p2 hlk
    cases h
    obtain ⟨tx, htx⟩ := hE.2.2.2.2.2.2.2.2.1 own x _ ho hlk rfl
    have hgo := kk L H locs cells slots hcc hss hl hM
    rw [zcs_cons] at hgo
    have hz : zcv (zad base ex) (.ref (1000000 + a)) = .ref (ex a) := congrArg Value.ref (zad_out base ex a)
    rw [hz] at hgo
    exact va_ldcS hx hb hown htx hd hgo
  · cases h
theorem z_ldc_w {x : Nat} (C : zCtx p s m args meth c R cc base ex X own ini nL c0) (hd : decode cc pc = .ok (.ldc_w x, 3)) (h : zs1 X own ini pc ls st M (.ldc_w x) = some (pc', ls', st', M')) (hl : lv_has L nL (zcl (zad base ex) ls)) (hM : zMid base ex dC dI s M H locs) (hcc : cells + c0 = M.1) (hss : slots + s0 = M.2.1)
    (kk : zGo p l e R s m args below meth c Q base ex dC dI nL c0 s0 pc' ls' st' M') : W p l e R s m args below meth c H locs cells slots Q (F0 m pc L (zcs (zad base ex) st)) := by
  obtain ⟨hx, hb, hown, ho, hts, hE, hini, hml, hRf, hRl, hs0⟩ := id C
  obtain ⟨h1, h2, hS, hF, ws, tys, hR, hP, hK⟩ := id hM
  simp only [zs1] at h
  split at h
  · rename_i a b2 p2 hlk
    cases h
    exact lv_ldcw hx hb hown (hts _ (z_lk ho hlk (show (5 : Nat) ≠ 7 by decide) rfl rfl)) hd (kk L H locs cells slots hcc hss hl hM)
  · rename_i a b2 p2 hlk
    cases h
    obtain ⟨tx, htx⟩ := hE.2.2.2.2.2.2.2.2.1 own x _ ho hlk rfl
    have hgo := kk L H locs cells slots hcc hss hl hM
    rw [zcs_cons] at hgo
    have hz : zcv (zad base ex) (.ref (1000000 + a)) = .ref (ex a) := congrArg Value.ref (zad_out base ex a)
    rw [hz] at hgo
    intro T hT X0
    obtain ⟨t, a1, b1⟩ := hgo T hT X0
    exact ⟨t, X0.ldcStringW hx hown (text := tx) (a := ex a) htx.1 htx.2 (g := F0 m pc L (zcs (zad base ex) st)) rfl (by rw [hb]; exact hd) t a1, b1⟩
  · cases h
theorem z_ldc2_w {x : Nat} (C : zCtx p s m args meth c R cc base ex X own ini nL c0) (hd : decode cc pc = .ok (.ldc2_w x, 3)) (h : zs1 X own ini pc ls st M (.ldc2_w x) = some (pc', ls', st', M')) (hl : lv_has L nL (zcl (zad base ex) ls)) (hM : zMid base ex dC dI s M H locs) (hcc : cells + c0 = M.1) (hss : slots + s0 = M.2.1)
    (kk : zGo p l e R s m args below meth c Q base ex dC dI nL c0 s0 pc' ls' st' M') : W p l e R s m args below meth c H locs cells slots Q (F0 m pc L (zcs (zad base ex) st)) := by
  obtain ⟨hx, hb, hown, ho, hts, hE, hini, hml, hRf, hRl, hs0⟩ := id C
  obtain ⟨h1, h2, hS, hF, ws, tys, hR, hP, hK⟩ := id hM
  simp only [zs1] at h
  split at h
  · rename_i a b2 p2 hlk
    cases h
    exact lv_ldc2 hx hb hown (hts _ (z_lk ho hlk (show (6 : Nat) ≠ 7 by decide) rfl rfl)) hd (kk L H locs cells slots hcc hss hl hM)
  · cases h
theorem z_getstatic {x : Nat} (C : zCtx p s m args meth c R cc base ex X own ini nL c0) (hd : decode cc pc = .ok (.getstatic x, 3)) (h : zs1 X own ini pc ls st M (.getstatic x) = some (pc', ls', st', M')) (hl : lv_has L nL (zcl (zad base ex) ls)) (hM : zMid base ex dC dI s M H locs) (hcc : cells + c0 = M.1) (hss : slots + s0 = M.2.1)
    (kk : zGo p l e R s m args below meth c Q base ex dC dI nL c0 s0 pc' ls' st' M') : W p l e R s m args below meth c H locs cells slots Q (F0 m pc L (zcs (zad base ex) st)) := by
  obtain ⟨hx, hb, hown, ho, hts, hE, hini, hml, hRf, hRl, hs0⟩ := id C
  obtain ⟨h1, h2, hS, hF, ws, tys, hR, hP, hK⟩ := id hM
  simp only [zs1] at h
  split at h
  · rename_i a b2 p2 hlk
    split at h
    · rename_i ha
      cases h
      have hgo := kk L H locs cells slots hcc hss hl hM
      rw [zcs_cons] at hgo
      have hz : zcv (zad base ex) (.ref (1000000 + a)) = .ref (ex a) := congrArg Value.ref (zad_out base ex a)
      rw [hz] at hgo
      have hw := z_lkN ho hlk (show (8 : Nat) ≠ 7 by decide) rfl rfl
      have hw2 := va_Nw.use (A := args) rfl (hE.2.2.2.2.2.1 _ hw)
      rcases ha with rfl | rfl | rfl
      · exact va_getsN hx hb hE.2.2.1.2 hS hown hw2 (fun _ h => h) hd hgo
      · exact va_getsN hx hb hE.2.2.2.1.2 hS hown hw2 (fun _ h => h) hd hgo
      · exact va_getsN hx hb hE.2.2.2.2.1.2 hS hown hw2 (fun _ h => h) hd hgo
    · cases h
  · cases h
theorem zcs_cat {ad : Nat → Nat} (st : List Value) : ((zcs ad st).map fun v => v.category).sum = (st.map fun v => v.category).sum := by
  unfold zcs
  rw [List.map_map]
  refine congrArg List.sum (congrArg (fun f => List.map f st) (funext fun v => ?_))
  exact zcv_cat ad v
theorem z_objinit {x : Nat} (C : zCtx p s m args meth c R cc base ex X own ini nL c0) (hd : decode cc pc = .ok (.invokespecial x, 3)) (h : zs1 X own ini pc ls st M (.invokespecial x) = some (pc', ls', st', M')) (hl : lv_has L nL (zcl (zad base ex) ls)) (hM : zMid base ex dC dI s M H locs) (hcc : cells + c0 = M.1) (hss : slots + s0 = M.2.1)
    (kk : zGo p l e R s m args below meth c Q base ex dC dI nL c0 s0 pc' ls' st' M') : W p l e R s m args below meth c H locs cells slots Q (F0 m pc L (zcs (zad base ex) st)) := by
  obtain ⟨hx, hb, hown, ho, hts, hE, hini, hml, hRf, hRl, hs0⟩ := id C
  obtain ⟨h1, h2, hS, hF, ws, tys, hR, hP, hK⟩ := id hM
  simp only [zs1] at h
  split at h
  · rename_i a b2 p2 hlk
    split at h
    · rename_i q r
      split at h
      · rename_i hr8
        cases h
        refine W.objInit hx hb hown (hts _ (z_lk ho hlk (show (9 : Nat) ≠ 7 by decide) rfl rfl)) (hts _ zw_obj1) (hts _ zw_obj2) rfl (hl.1.trans hml.symm) rfl hd hRf ?_ (kk L H locs cells slots hcc hss hl hM)
        show 2 * 0 + _ + 12 ≤ _
        have := zcs_cat (ad := zad base ex) st'
        unfold zcs at this
        omega
      · cases h
    · cases h
  · cases h
theorem z_arraycopy {x : Nat} (C : zCtx p s m args meth c R cc base ex X own ini nL c0) (hd : decode cc pc = .ok (.invokestatic x, 3)) (h : zs1 X own ini pc ls st M (.invokestatic x) = some (pc', ls', st', M')) (hl : lv_has L nL (zcl (zad base ex) ls)) (hM : zMid base ex dC dI s M H locs) (hcc : cells + c0 = M.1) (hss : slots + s0 = M.2.1)
    (kk : zGo p l e R s m args below meth c Q base ex dC dI nL c0 s0 pc' ls' st' M') : W p l e R s m args below meth c H locs cells slots Q (F0 m pc L (zcs (zad base ex) st)) := by
  obtain ⟨hx, hb, hown, ho, hts, hE, hini, hml, hRf, hRl, hs0⟩ := id C
  obtain ⟨h1, h2, hS, hF, ws, tys, hR, hP, hK⟩ := id hM
  simp only [zs1] at h
  split at h
  · rename_i a2 b2 p2 hlk
    split at h
    · rename_i n dp a sp a0 r
      split at h
      · rename_i t0 n0 f he0
        split at h
        · rename_i t1 n1 g he1
          split at h
          · cases h
          · rename_i hc
            cases h
            simp only [not_or, Classical.not_not] at hc
            obtain ⟨c1, c2, c3, c4, c5, c6, c7, c8⟩ := hc
            subst c6
            obtain ⟨w0, hw0, ⟨cA0, i0, ht0, hrl0⟩, hlt0⟩ := hR.ent he0
            subst hrl0
            obtain ⟨w1, hw1, ⟨cA1, i1, ht1, hrl1⟩, hlt1⟩ := hR.ent he1
            subst hrl1
            have fitf : t0 = 1 → ∀ k, fits .byte (.int (f k)) = true := by
              intro z
              subst z
              unfold zob at he0
              rw [if_pos hlt0] at he0
              exact hF a0 n0 f (Option.some.inj he0)
            have fitg : t0 = 1 → ∀ k, fits .byte (.int (g k)) = true := by
              intro z
              subst z
              unfold zob at he1
              rw [if_pos hlt1] at he1
              exact hF a n1 g (Option.some.inj he1)
            have hty : (t0 = 0 ∧ zty t0 = .int) ∨ (t0 = 1 ∧ zty t0 = .byte) := by
              rcases (show t0 = 0 ∨ t0 = 1 by omega) with z | z
              · subst z; exact Or.inl ⟨rfl, rfl⟩
              · subst z; exact Or.inr ⟨rfl, rfl⟩
            have hprim : refKind (zty t0) = false := by
              rcases hty with ⟨-, z⟩ | ⟨-, z⟩ <;> rw [z] <;> rfl
            refine va_copyi hx hb (hml.trans hl.1.symm) hown (hts _ (z_lk ho hlk (show (10 : Nat) ≠ 7 by decide) rfl rfl)) (hts _ zw_cpy1) (hts _ zw_cpy2) (hts _ zw_cpy3) hK hP (hR.D h1) hS a0 a i0 i1 hw0 hw1 ht0 ht1 hprim c1 c2 c3 c4 c5 (fun k hk => ?_) hRf ?_ hd (fun H1 locs1 hP1 hD1 hS1 => kk L H1 locs1 cells slots hcc hss hl (zMid.write h1 h2 hF hR hK hlt1 ⟨cA1, i1, ht1, rfl⟩ (fun n2 f2 hz k => ?_) hP1 hS1))
            · rcases hty with ⟨-, z⟩ | ⟨z1, z⟩
              · rw [z]; rfl
              · rw [z]; exact fitf z1 _
            · have := zcs_cat (ad := zad base ex) st'
              have e7 : nativeFrameWords "java/lang/System" "arraycopy" 5 = 7 := by decide +kernel
              rw [e7]
              unfold zcs at this
              omega
            · cases hz
              unfold va_cpy
              split
              · exact fitf rfl _
              · exact fitg rfl _
        · cases h
      · cases h
    · cases h
  · cases h
theorem zstr_at {base : Nat} {ex : Nat → Nat} {U : State} {Hp : Heap} (hST : vk_S 13 (zstr.map List.length) zstr ex (fun i => ex (20 + i)) (zA base) U Hp) {q : Nat} (hq : 1000020 ≤ q ∧ q < 1000033) : va_T .byte (zad base ex q) (zsb (q - 1000020)).length (fun j => .int ((zsb (q - 1000020)).getD j 0)) (zA base) U Hp := by
  have h := (hST.1 (q - 1000020) (by omega)).2.2.2
  have e1 : zad base ex q = ex (20 + (q - 1000020)) := by
    unfold zad
    rw [if_neg (by omega)]
    exact congrArg ex (by omega)
  have e2 : (zstr.map List.length).getD (q - 1000020) 0 = (zsb (q - 1000020)).length := by
    unfold zsb
    simp only [List.getD_eq_getElem?_getD, List.getElem?_map]
    cases zstr[q - 1000020]? <;> rfl
  rw [e2] at h
  rw [e1]
  exact h
theorem z_sgetfield {x : Nat} (C : zCtx p s m args meth c R cc base ex X own ini nL c0) (hd : decode cc pc = .ok (.getfield x, 3)) (h : zs3 X own pc ls st M (.getfield x) = some (pc', ls', st', M')) (hl : lv_has L nL (zcl (zad base ex) ls)) (hM : zMid base ex dC dI s M H locs) (hcc : cells + c0 = M.1) (hss : slots + s0 = M.2.1)
    (kk : zGo p l e R s m args below meth c Q base ex dC dI nL c0 s0 pc' ls' st' M') : W p l e R s m args below meth c H locs cells slots Q (F0 m pc L (zcs (zad base ex) st)) := by
  obtain ⟨hx, hb, hown, ho, hts, hE, hini, hml, hRf, hRl, hs0⟩ := id C
  obtain ⟨h1, h2, hS, hF, ws, tys, hR, hP, hK⟩ := id hM
  obtain ⟨-, -, -, -, -, -, -, -, -, hST, hCS, hSF⟩ := hE
  simp only [zs3] at h
  split at h
  · rename_i a b2 p2 hlk
    split at h
    · rename_i q r
      by_cases hq : 1000000 ≤ q ∧ q < 1000013
      · rw [if_pos hq] at h
        have hq : @LE.le Nat _ 1000000 q ∧ @LT.lt Nat _ q 1000013 := hq
        have e1 : zad base ex q = ex (q - 1000000) := by
          unfold zad
          rw [if_neg (by omega)]
        have hs := hST.1 (q - 1000000) (by omega)
        have hz : zcs (zad base ex) (.ref q :: r) = .ref (ex (q - 1000000)) :: zcs (zad base ex) r := by rw [zcs_cons]; exact congrArg (fun z => Value.ref z :: zcs (zad base ex) r) e1
        split at h
        · rename_i ha
          subst ha
          cases h
          have hgo := kk L H locs cells slots hcc hss hl hM
          have e2 : zad base ex (q + 20) = ex (20 + (q - 1000000)) := by
            unfold zad
            rw [if_neg (by omega)]
            exact congrArg ex (by omega)
          have hz2 : zcs (zad base ex) (.ref (q + 20) :: r) = .ref (ex (20 + (q - 1000000))) :: zcs (zad base ex) r := by rw [zcs_cons]; exact congrArg (fun z => Value.ref z :: zcs (zad base ex) r) e2
          rw [hz2] at hgo
          rw [hz]
          exact vk_getf hx hb hs.2.2.1 hS hown (hts _ (z_lk ho hlk (show (11 : Nat) ≠ 7 by decide) rfl rfl)) (fun _ h => h) hd hgo
        · split at h
          · rename_i ha
            subst ha
            cases h
            rw [hz]
            exact vk_getf hx hb hs.2.1 hS hown (hts _ (z_lk ho hlk (show (11 : Nat) ≠ 7 by decide) rfl rfl)) (fun _ h => h) hd (kk L H locs cells slots hcc hss hl hM)
          · cases h
      · rw [if_neg hq] at h
        cases h
    · cases h
  · cases h
theorem z_sarraylength (C : zCtx p s m args meth c R cc base ex X own ini nL c0) (hd : decode cc pc = .ok (.arraylength, 1)) (h : zs3 X own pc ls st M (.arraylength) = some (pc', ls', st', M')) (hl : lv_has L nL (zcl (zad base ex) ls)) (hM : zMid base ex dC dI s M H locs) (hcc : cells + c0 = M.1) (hss : slots + s0 = M.2.1)
    (kk : zGo p l e R s m args below meth c Q base ex dC dI nL c0 s0 pc' ls' st' M') : W p l e R s m args below meth c H locs cells slots Q (F0 m pc L (zcs (zad base ex) st)) := by
  obtain ⟨hx, hb, hown, ho, hts, hE, hini, hml, hRf, hRl, hs0⟩ := id C
  obtain ⟨h1, h2, hS, hF, ws, tys, hR, hP, hK⟩ := id hM
  obtain ⟨-, -, -, -, -, -, -, -, -, hST, hCS, hSF⟩ := hE
  simp only [zs3] at h
  split at h
  · rename_i q r
    split at h
    · rename_i hq
      cases h
      exact va_tlen hx hb (zstr_at hST hq) hS rfl hd (kk L H locs cells slots hcc hss hl hM)
    · cases h
  · cases h
theorem z_sbaload (C : zCtx p s m args meth c R cc base ex X own ini nL c0) (hd : decode cc pc = .ok (.baload, 1)) (h : zs3 X own pc ls st M (.baload) = some (pc', ls', st', M')) (hl : lv_has L nL (zcl (zad base ex) ls)) (hM : zMid base ex dC dI s M H locs) (hcc : cells + c0 = M.1) (hss : slots + s0 = M.2.1)
    (kk : zGo p l e R s m args below meth c Q base ex dC dI nL c0 s0 pc' ls' st' M') : W p l e R s m args below meth c H locs cells slots Q (F0 m pc L (zcs (zad base ex) st)) := by
  obtain ⟨hx, hb, hown, ho, hts, hE, hini, hml, hRf, hRl, hs0⟩ := id C
  obtain ⟨h1, h2, hS, hF, ws, tys, hR, hP, hK⟩ := id hM
  obtain ⟨-, -, -, -, -, -, -, -, -, hST, hCS, hSF⟩ := hE
  simp only [zs3] at h
  split at h
  · rename_i j q r
    split at h
    · rename_i hq
      split at h
      · cases h
      · rename_i hin
        cases h
        exact va_tb hx hb (zstr_at hST hq) hS hin rfl hd (kk L H locs cells slots hcc hss hl hM)
    · cases h
  · cases h
theorem z_sgetstatic {x : Nat} (C : zCtx p s m args meth c R cc base ex X own ini nL c0) (hd : decode cc pc = .ok (.getstatic x, 3)) (h : zs3 X own pc ls st M (.getstatic x) = some (pc', ls', st', M')) (hl : lv_has L nL (zcl (zad base ex) ls)) (hM : zMid base ex dC dI s M H locs) (hcc : cells + c0 = M.1) (hss : slots + s0 = M.2.1)
    (kk : zGo p l e R s m args below meth c Q base ex dC dI nL c0 s0 pc' ls' st' M') : W p l e R s m args below meth c H locs cells slots Q (F0 m pc L (zcs (zad base ex) st)) := by
  obtain ⟨hx, hb, hown, ho, hts, hE, hini, hml, hRf, hRl, hs0⟩ := id C
  obtain ⟨h1, h2, hS, hF, ws, tys, hR, hP, hK⟩ := id hM
  obtain ⟨-, -, -, -, -, -, -, -, -, hST, hCS, hSF⟩ := hE
  simp only [zs3] at h
  split at h
  · rename_i a b2 p2 hlk
    cases h
    exact va_gets hx hb hCS hS hown (hts _ (z_lk ho hlk (show (12 : Nat) ≠ 7 by decide) rfl rfl)) (fun _ h => h) hd (kk L H locs cells slots hcc hss hl hM)
  · rename_i a b2 p2 hlk
    cases h
    have hgo := kk L H locs cells slots hcc hss hl hM
    rw [zcs_cons] at hgo
    have hz : zcv (zad base ex) (if X.2.2 = 0 then .null else .ref 1000040) = (if X.2.2 = 0 then .null else .ref (ex 40)) := by
      split
      · rfl
      · exact congrArg Value.ref (zad_out base ex 40)
    rw [hz] at hgo
    exact va_gets hx hb hSF hS hown (hts _ (z_lk ho hlk (show (13 : Nat) ≠ 7 by decide) rfl rfl)) (fun _ h => h) hd hgo
  · cases h
end ZS1
