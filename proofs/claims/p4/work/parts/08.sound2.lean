/-! THE ROWS OF THE EVALUATOR, 2: calls, returns, whole methods -/
def zOK (r : zMe) : Prop := Cond.code r.1 r.2.1 r.2.2.1 r.2.2.2.1 ∈ zW ∧ Cond.initialized r.1.cls ∈ zW ∧ (r.1.cls ≠ "java/lang/invoke/MethodHandle" ∧ r.1.cls ≠ "java/lang/invoke/VarHandle" ∧ (parseMethodDescriptor r.1.desc).map (fun d => d.parameters.length) = some r.2.2.2.2.1) ∧ plainFor r.1 = true ∧ r.2.2.1 ≤ 40 ∧ (r.2.2.2.2.2.1 < 21 ∧ zown r.2.2.2.2.2.1 = r.1.cls) ∧
  (r.2.2.2.2.2.2.1 = 0 → Cond.static r.1 ∈ zW) ∧ (r.2.2.2.2.2.2.1 = 1 → Cond.instanceMethod r.1 ∈ zW ∧ Cond.selects r.1.cls r.1 r.1 ∈ zW) ∧ (r.2.2.2.2.2.2.1 = 2 → Cond.instanceMethod r.1 ∈ zW ∧ r.1.name = "<init>" ∧ r.2.2.2.1 = none) ∧
  (∀ pc x, r.2.2.2.2.2.2.2 pc = some x → decode r.2.1 pc = .ok x)
def zws (r : zMe) : List Cond := Cond.code r.1 r.2.1 r.2.2.1 r.2.2.2.1 :: zW
def zrm (d mc ms : Nat) : Room := { frames := d, cells := mc, slots := ms, locals := 200 * d }
def zWld (base : Nat) (ex : Nat → Nat) (dC : Nat → ClassId) (dI : Nat → Nat → Nat) (X : zX) (M : zM) (U : State) : Prop :=
  U.heap.size = base + M.1 ∧ zMid base ex dC dI U M U.heap [] ∧ zExt base ex X U U.heap
def zQc (base : Nat) (ex : Nat → Nat) (dC : Nat → ClassId) (dI : Nat → Nat → Nat) (X : zX) (v : Option Value) (M' : zM) : Array Value → State → Outcome → State → Prop := fun _ st o t =>
  o = .returned (v.map (zcv (zad base ex))) ∧ zWld base ex dC dI X M' t ∧ va_F (zA base) st t
def zMet (l : Launch) (base : Nat) (ex : Nat → Nat) (dC : Nat → ClassId) (dI : Nat → Nat → Nat) (X : zX) (d : Nat) (r : zMe) (args : List Value) (M : zM) (v : Option Value) (M' : zM) : Prop :=
  Met l r.1 (zws r) (zrm d (M'.1 - M.1) (M'.2.1 - M.2.1)) (va_Pc (zcs (zad base ex) args) (zWld base ex dC dI X M)) (zQc base ex dC dI X v M') (M'.1 - M.1) (M'.2.1 - M.2.1) (zA base)
theorem zExt.to {base : Nat} {ex : Nat → Nat} {X : zX} {u U : State} {H0 H1 : Heap} (h : zExt base ex X u H0) (hW : u.WarmedH U.vm) (hq : ∀ q : Nat, q < base → H1[q]? = H0[q]?) : zExt base ex X U H1 := by
  obtain ⟨h1, h2, ⟨a1, a2⟩, ⟨b1, b2⟩, ⟨c1, c2⟩, h3, h4, h5, h6, h7, h8, h9⟩ := h
  have hA := hW.alike
  have hk : ∀ a : Nat, a < H0.size → ¬ zA base a → H1[a]? = H0[a]? := fun a _ h => hq a (Nat.not_le.mp h)
  refine ⟨(h1.moved hA).kept (hq _ h2), h2, ⟨(a1.moved hA).kept hk, (a2.moved hA).kept hk⟩, ⟨(b1.moved hA).kept hk, (b2.moved hA).kept hk⟩, ⟨(c1.moved hA).kept hk, (c2.moved hA).kept hk⟩, fun w hw => ?_, h4.moved hA, h5.moved hA, fun o k r ho hr h7 => ?_, (h7.moved hA).kept hk, (h8.moved hA).kept hk, (h9.moved hA).kept hk⟩
  · have hz := (List.mem_filter.mp hw).2
    have hw2 := h3 w hw
    cases w <;> first | (exact va_Nw.warmM hW hw2) | (exact va_Nw.warmF hW hw2) | (simp at hz)
  · obtain ⟨tx, ht⟩ := h6 o k r ho hr h7
    exact ⟨tx, ht.warm hW⟩
theorem zWld.to {base : Nat} {ex : Nat → Nat} {dC : Nat → ClassId} {dI : Nat → Nat → Nat} {X : zX} {M : zM} {u U : State} (h : zWld base ex dC dI X M u) (hW : u.WarmedH U.vm) (hH : U.heap = u.heap) : zWld base ex dC dI X M U := by
  obtain ⟨h1, ⟨g1, g2, g3, g4, ws, tys, g5, g6, g7⟩, h3⟩ := h
  refine ⟨by rw [hH]; exact h1, ⟨g1, by rw [hH]; exact g2, va_S.rf, g4, ws, tys, g5, by rw [hH]; exact g6, va_K.moved hW.alike g7⟩, h3.to hW (fun q _ => by rw [hH])⟩
theorem zWld.blind {base : Nat} {ex : Nat → Nat} {dC : Nat → ClassId} {dI : Nat → Nat → Nat} {X : zX} {M : zM} {av : List Value} : FrameBlind (va_Pc av (zWld base ex dC dI X M)) := fun a U g mk q => ⟨q.1, zWld.to (U := U.calling g mk a) q.2 (State.WarmedH.refl U) rfl⟩
section ZS2
variable {p : Program} {l : Launch} {e : Env} {R : Room} {s : State} {m : MethodId} {args : Array Value} {below : List Frame} {meth : Method} {c : Code} {H : Heap} {locs : List Loc} {cells slots : Nat} {Q : State → Prop} {cc : ByteArray} {base : Nat} {ex : Nat → Nat} {dC : Nat → ClassId} {dI : Nat → Nat → Nat} {X : zX} {own : Nat} {ini : Bool} {pc nL len pc' c0 s0 : Nat} {i : Instr} {ls ls' : zL} {st st' : List Value} {M M' : zM} {L : Array Slot}
/-- what stands in the midst of a method, as another one sees it that is called there -/
theorem zMid.wld (C : zCtx p s m args meth c R cc base ex X own ini nL c0) (hM : zMid base ex dC dI s M H locs) (hsz : H.size ≤ base + M.1) {U : State} (hU : U.heap = H) (hW : s.WarmedH U.vm) : zWld base ex dC dI X M U := by
  obtain ⟨hx, hb, hown, ho, hts, hE, hini, hml, hRf, hRl, hs0⟩ := id C
  obtain ⟨h1, h2, hS, hF, ws, tys, hR, hP, hK⟩ := id hM
  have hge : base + M.1 ≤ H.size := by
    by_cases hz : M.1 = 0
    · rw [hz]
      exact Nat.le_trans h2 hS.1
    · obtain ⟨w, hw, -⟩ := hR.2 (M.1 - 1) (by omega)
      have h3 : zad base ex (M.1 - 1) < H.size := (hP (M.1 - 1) _ hw).lt
      unfold zad at h3
      rw [if_pos (by omega)] at h3
      omega
  refine ⟨by rw [hU]; omega, ⟨h1, by rw [hU]; exact Nat.le_trans h2 hS.1, va_S.rf, hF, ws, tys, hR, by rw [hU]; exact hP, va_K.moved hW.alike hK⟩, hE.to hW (fun q hq => ?_)⟩
  rw [hU]
  exact hS.2.1 q (Nat.lt_of_lt_of_le hq h2) (Nat.not_le.mpr hq)
theorem z_back {mc ms : Nat} {st0 rest : List Value} {a : Array Value} {v : Option Value} (C : zCtx p s m args meth c R cc base ex X own ini nL c0) (hr : va_Run p l e R s m args below meth c H locs cells slots mc ms (F0 m pc L st0) (zcs (zad base ex) rest) (zQc base ex dC dI X v M' a) (zA base)) (hM : zMid base ex dC dI s M H locs) (hl : lv_has L nL (zcl (zad base ex) ls)) (hcc : cells + mc + c0 = M'.1) (hss : slots + ms + s0 = M'.2.1)
    (kk : zGo p l e R s m args below meth c Q base ex dC dI nL c0 s0 (pc + 3) ls (v.toList ++ rest) M') : W p l e R s m args below meth c H locs cells slots Q (F0 m pc L st0) := by
  obtain ⟨hx, hb, hown, ho, hts, hE, hini, hml, hRf, hRl, hs0⟩ := id C
  obtain ⟨h1, h2, hS, hF, ws, tys, hR, hP, hK⟩ := id hM
  intro T hT Y
  obtain ⟨v', st₀, t, T', Lc, g0, Y', hL, e1, e2, ⟨hv, hWd, hz, hk⟩, stp⟩ := hr T hT Y
  cases hv
  rw [g0] at hz hk
  obtain ⟨f1, ⟨f2, -, -, f3, ws', tys', f4, f5, f6⟩, -⟩ := hWd
  have hmid : zMid base ex dC dI s M' T'.heap (locs ++ Lc) := by
    refine ⟨f2, h2, ⟨Nat.le_trans hS.1 (by rw [e1]; exact hz), fun q q1 q2 => ?_, fun q hq => ?_⟩, f3, ws', tys', f4, by rw [e1]; exact f5, va_K.moved ?_ f6⟩
    · rw [e1, hk q (Nat.lt_of_lt_of_le q1 hS.1) q2]
      exact hS.2.1 q q1 q2
    · rcases List.mem_append.mp hq with h | h
      · exact hS.2.2 q h
      · exact hL q h
    · rw [← e2]
      exact Y'.warmed.alike.symm
  obtain ⟨t2, a1, b1⟩ := kk L T'.heap (locs ++ Lc) (cells + mc) (slots + ms) (by omega) (by omega) hl hmid T' rfl Y'
  refine ⟨t2, stp t2 ?_, b1⟩
  have hst : (v.map (zcv (zad base ex))).toList ++ zcs (zad base ex) rest = zcs (zad base ex) (v.toList ++ rest) := by cases v <;> rfl
  rw [hst]
  exact a1
end ZS2
