/-! THE ENGINE, 21: going through a method -/
/-- a frame that waits: method, where it goes on, locals, stack -/
abbrev sFr : Type := zMe × Nat × List (Nat × sV) × List sV
def sargs : Nat → List sV → List (Nat × sV)
  | _, [] => []
  | k, a :: l => (k, a) :: sargs (cond (Nat.beq a.1 1) (k + 2) (k + 1)) l
def sknown (l : List sV) : Bool := l.all fun a => sc1 a.1 || Nat.beq a.1 1
def sslots : List sV → Nat
  | [] => 0
  | a :: l => (cond (Nat.beq a.1 1) 2 1) + sslots l
def sapp (hM : sA → List sMo → List sQ) (hN : sA → sQ → Bool) (hL : sA → sLc → List sE) (mods : List sMo) (rk dep : sE) (nest : Nat) (A : sA) (vals : List sV) (b : Bool) (c : sCt) : Option (List sA) := match tmc hN hL A (sargs 0 vals) [] [] c.1 with
  | some (A', τ) => cond ((c.2.1.map (tsm τ)).all (tin A'.1 mods) && (sge0 A'.1 (sP1 (ssub rk (tsb τ c.2.2.2.1))) && (sge0 A'.1 (ssub (ssub dep (sC (nest + 1 : Int))) (tsb τ c.2.2.2.2.1)) && (sge0 A'.1 (tsb τ c.2.2.2.2.1) && c.2.2.1.all fun t => tres (tLs c.1.1.length t.1) b)))) (some (c.2.2.1.filterMap fun t => tpo hM A' τ t (c.2.1.map (tsm τ)))) none
  | none => none
def sfst (f : sCt → Option (List sA)) : List sCt → Option (List sA)
  | [] => none
  | c :: l => match f c with
    | some A => some A
    | none => sfst f l
def sisr (i : Instr) : Bool := match i with
  | .return_ | .ireturn | .lreturn | .areturn => true
  | _ => false
def srt (K : sK) (ret : Option FieldType) (i : Instr) (T : List sV) : Option (Option sV) := match i with
  | .return_ => (match ret, T with
    | none, [] => some none
    | _, _ => none)
  | .ireturn => (match ret, T with
    | some .int, [(0, _, e)] => some (some (0, 0, e))
    | some .boolean, [(0, _, e)] => cond (sin_ K e (0, 1)) (some (some (0, 0, e))) none
    | some .byte, [(0, _, e)] => cond (sin_ K e (-128, 127)) (some (some (0, 0, e))) none
    | _, _ => none)
  | .lreturn => (match ret, T with
    | some .long, [(1, _, e)] => some (some (1, 0, e))
    | _, _ => none)
  | .areturn => (match ret, T with
    | some (.object _), [a] => cond (srf a.1) (some (some a)) none
    | _, _ => none)
  | _ => none
def shd (hN : sA → sQ → Bool) (hL : sA → sLc → List sE) (C : sCt) (rk : sE) (A : sA) (h : Nat × sTm × sE) : Bool := match A.2.2.2.2.2 with
  | [] => (match tmc hN hL A A.2.2.2.2.1 (tB C.1.1) (tfr 0 C.1.1.length) h.2.1 with
    | some (A', τ) => sge0 A'.1 (sP1 (ssub rk (tsb τ h.2.2)))
    | none => false)
  | _ :: _ => false
def slv (v : Option sV) : List (Nat × sV) := match v with
  | some a => [(0, a)]
  | none => []
def sfin (hN : sA → sQ → Bool) (hL : sA → sLc → List sE) (C : sCt) (A : sA) (v : Option sV) : Bool := C.2.2.1.any fun t => (tmc hN hL A (slv v) (tB C.1.1) (tfr 0 C.1.1.length) t).isSome
def shead (C : sCt) (fst : Bool) (fs : List sFr) (pc : Nat) : Option (Nat × sTm × sE) := cond fst none (match fs with
  | [] => C.2.2.2.2.2.find? fun h => Nat.beq h.1 pc
  | _ :: _ => none)
/-- a number whose sign is asked for -/
def sspl (K : sK) (i : Instr) (T : List sV) : Option sE := match i with
  | .idiv | .irem => (match T with
    | (0, _, b) :: (0, _, a) :: _ => (match scon K.1 b with
      | some c => cond (spos (c - 1) && !(sge0 K a || sge0 K (sneg a))) (some a) none
      | none => none)
    | _ => none)
  | .ldiv | .lrem => (match T with
    | (1, _, b) :: (1, _, a) :: _ => (match scon K.1 b with
      | some c => cond (spos (c - 1) && !(sge0 K a || sge0 K (sneg a))) (some a) none
      | none => none)
    | _ => none)
  | _ => none
/-- a number whose sign is asked for, by a rule or by a division -/
def ssp2 (hG : Nat → Nat → Instr → sA → Option sE) (own pc : Nat) (A : sA) (i : Instr) : Option sE := match hG own pc i A with
  | some e => cond (twE A.1.1.length e) (some e) (sspl A.1 i A.2.2.2.2.2)
  | none => sspl A.1 i A.2.2.2.2.2
def sgo (hS : sA → sF → List sQ) (hM : sA → List sMo → List sQ) (hN : sA → sQ → Bool) (hL : sA → sLc → List sE) (hC : sA → sCy → List sQ) (hG : Nat → Nat → Instr → sA → Option sE) (th : Nat) (mt : Nat → Option zMe) (sovn : Nat → Bool) (tbl : Nat → List sCt) (C : sCt) (rk : sE) : Nat → Bool → List sFr → zMe → Nat → sA → Bool
  | 0, _, _, _, _, _ => false
  | n + 1, fst, fs, r, pc, (K, D, F, Q, L, T) => match shead C fst fs pc with
    | some _ => C.2.2.2.2.2.any fun h => Nat.beq h.1 pc && shd hN hL C rk (K, D, F, Q, L, T) h
    | none => match r.2.2.2.2.2.2.2 pc with
      | none => false
      | some (i, len) => match ssp2 hG r.2.2.2.2.2.1 pc (K, D, F, Q, L, T) i with
        | some e => (match sasm [e] K with
          | some K1 => sgo hS hM hN hL hC hG th mt sovn tbl C rk n fst fs r pc (K1, D, F, Q, L, T)
          | none => true) && (match sasm [sM1 e] K with
          | some K1 => sgo hS hM hN hL hC hG th mt sovn tbl C rk n fst fs r pc (K1, D, F, Q, L, T)
          | none => true)
        | none => cond (zlok i len) (cond (sisr i) (match srt K r.2.2.2.1 i T with
          | some v => (match fs with
            | [] => sfin hN hL C (K, D, F, Q, L, []) v
            | f :: fs' => sgo hS hM hN hL hC hG th mt sovn tbl C rk n false fs' f.1 f.2.1 (K, D, F, Q, f.2.2.1, v.toList ++ f.2.2.2))
          | none => false)
        (match scx mt r.2.2.2.2.2.1 i T with
          | some (a, r', vals, rest) => cond (sovn a && (sknown vals && Nat.ble (sslots vals) r'.2.2.1)) (match tbl a with
            | [] => cond (sge0 K (ssub C.2.2.2.2.1 (sC (fs.length + 1 : Int)))) (sgo hS hM hN hL hC hG th mt sovn tbl C rk n false ((r, pc + 3, L, rest) :: fs) r' 0 (K, D, F, Q, sargs 0 vals, [])) false
            | c :: cs => (match sfst (sapp hM hN hL C.2.1 rk C.2.2.2.2.1 fs.length (K, D, F, Q, L, rest) vals r'.2.2.2.1.isSome) (c :: cs) with
              | some As => As.all fun A2 => sgo hS hM hN hL hC hG th mt sovn tbl C rk n false fs r (pc + 3) A2
              | none => false)) false
          | none => (match sxs r.2.2.2.2.2.1 i (K, D, F, Q, L, T) with
            | some (_, A2) => cond (sge0 K (ssub C.2.2.2.2.1 (sC (fs.length + th + 1 : Int)))) (sgo hS hM hN hL hC hG th mt sovn tbl C rk n false fs r (pc + 3) A2) false
            | none => (match sstp hS hC hL C.2.1 r.2.2.2.2.2.1 pc r.2.2.1 (K, D, F, Q, L, T) i len with
              | some outs => outs.all fun q => sgo hS hM hN hL hC hG th mt sovn tbl C rk n false fs r q.1 q.2
              | none => false)))) false
/-! what it means -/
theorem sisr_none {ret : Option FieldType} {i : Instr} {st : List Value} (h : sisr i = false) : zret ret i st = none := by
  cases i <;> first | rfl | cases h
section SARGS
variable {ρ : Nat → Int}
theorem lv_args_ge : ∀ (args : List Value) (k : Nat), ∀ p ∈ lv_args k args, k ≤ p.1
  | [], _, p, hp => by cases hp
  | v :: l, k, p, hp => by
    unfold lv_args at hp
    rcases List.mem_cons.mp hp with rfl | hp
    · exact Nat.le_refl _
    · have := lv_args_ge l _ p hp
      split at this <;> omega
theorem sargs_ge : ∀ (vals : List sV) (k : Nat), ∀ p ∈ sargs k vals, k ≤ p.1
  | [], _, p, hp => by cases hp
  | a :: l, k, p, hp => by
    unfold sargs at hp
    rcases List.mem_cons.mp hp with rfl | hp
    · exact Nat.le_refl _
    · have := sargs_ge l _ p hp
      cases hq : Nat.beq a.1 1 <;> rw [hq] at this <;> dsimp only [cond] at this <;> omega
theorem sknown_cat {v : Value} {a : sV} (h : sVal ρ v a) (hk : (sc1 a.1 || Nat.beq a.1 1) = true) : (if v.category = 2 then (2 : Nat) else 1) = cond (Nat.beq a.1 1) 2 1 ∧ ∀ k : Nat, (if v.category = 2 then k + 2 else k + 1) = cond (Nat.beq a.1 1) (k + 2) (k + 1) := by
  cases hq : Nat.beq a.1 1 with
  | true =>
    have e := Nat.eq_of_beq_eq_true hq
    obtain ⟨t, q, ex⟩ := a
    have e : t = 1 := e
    subst e
    obtain ⟨x, rfl, -⟩ := h
    exact ⟨rfl, fun _ => rfl⟩
  | false =>
    rw [hq, Bool.or_false] at hk
    rw [sc1_ok h hk]
    exact ⟨rfl, fun _ => rfl⟩
theorem sargs_ok : ∀ (vals : List sV) (args : List Value) (k : Nat), sStk ρ args vals → sknown vals = true → ∀ p ∈ sargs k vals, ∃ v, zget (lv_args k args) p.1 = some v ∧ sVal ρ v p.2
  | [], _, _, _, _, p, hp => by cases hp
  | _ :: _, [], _, h, _, _, _ => h.elim
  | a :: l, v :: args, k, h, hk, p, hp => by
    unfold sknown at hk
    rw [List.all_cons, Bool.and_eq_true] at hk
    unfold sargs at hp
    unfold lv_args
    rw [zget_cons]
    rcases List.mem_cons.mp hp with rfl | hp
    · exact ⟨v, if_pos rfl, h.1⟩
    · have h1 := sargs_ge l _ p hp
      have hne : ¬ k = p.1 := by
        cases hq : Nat.beq a.1 1 <;> rw [hq] at h1 <;> dsimp only [cond] at h1 <;> omega
      rw [if_neg hne, (sknown_cat h.1 hk.1).2 k]
      exact sargs_ok l args _ h.2 hk.2 p hp
theorem sslots_ok : ∀ (vals : List sV) (args : List Value), sStk ρ args vals → sknown vals = true → (lg_sl args).length = sslots vals
  | [], [], _, _ => rfl
  | [], _ :: _, h, _ => h.elim
  | _ :: _, [], h, _ => h.elim
  | a :: l, v :: args, h, hk => by
    unfold sknown at hk
    rw [List.all_cons, Bool.and_eq_true] at hk
    have ih := sslots_ok l args h.2 hk.2
    have hc := (sknown_cat h.1 hk.1).1
    unfold lg_sl at ih ⊢
    rw [List.flatMap_cons, List.length_append, ih]
    show _ = (cond (Nat.beq a.1 1) 2 1) + sslots l
    rw [← hc]
    split <;> rfl
end SARGS
def sOpt (ρ : Nat → Int) (T : List sV) : Option Value → Option sV → Prop
  | some x, some a => sVal ρ x a ∧ ∃ b ∈ T, a.2.2 = b.2.2
  | none, none => True
  | _, _ => False
theorem srt_ok {ρ : Nat → Int} {K : sK} (hK : skok ρ K) {ret : Option FieldType} {i : Instr} {st : List Value} {T : List sV} (h : sStk ρ st T) {v : Option sV} (hs : srt K ret i T = some v) : ∃ w, zret ret i st = some w ∧ w.isSome = ret.isSome ∧ sOpt ρ T w v := by
  unfold srt at hs
  split at hs
  · split at hs
    · cases hs
      cases st with
      | nil => exact ⟨none, rfl, rfl, trivial⟩
      | cons v l => exact h.elim
    · cases hs
  · have one : ∀ {q : Nat} {e : sE}, sStk ρ st [(0, q, e)] → ∃ x : Int32, st = [.int x] ∧ x.toInt = se ρ e := by
      intro q e h
      cases st with
      | nil => exact h.elim
      | cons v l =>
        cases l with
        | nil =>
          obtain ⟨⟨x, rfl, hx⟩, -⟩ := h
          exact ⟨x, rfl, hx⟩
        | cons w l => exact h.2.elim
    split at hs
    · cases hs
      obtain ⟨x, rfl, hx⟩ := one h
      exact ⟨some (.int x), by simp [zret, narrow], rfl, ⟨x, rfl, hx⟩, _, List.mem_singleton.mpr rfl, rfl⟩
    · rename_i q e
      obtain ⟨x, rfl, hx⟩ := one h
      cases hc : sin_ K e (0, 1) with
      | false => rw [hc] at hs; cases hs
      | true =>
        rw [hc] at hs
        cases hs
        have hb := sin_ok hK hc
        rw [← hx] at hb
        refine ⟨some (.int x), ?_, rfl, ⟨x, rfl, hx⟩, _, List.mem_singleton.mpr rfl, rfl⟩
        rcases sbool (x := x) hb with rfl | rfl <;> rfl
    · rename_i q e
      obtain ⟨x, rfl, hx⟩ := one h
      cases hc : sin_ K e (-128, 127) with
      | false => rw [hc] at hs; cases hs
      | true =>
        rw [hc] at hs
        cases hs
        have hb := sin_ok hK hc
        rw [← hx] at hb
        refine ⟨some (.int x), ?_, rfl, ⟨x, rfl, hx⟩, _, List.mem_singleton.mpr rfl, rfl⟩
        have e1 : x.toInt8.toInt32 = x := Int32.toInt_inj.mp ((snar1 x).2 hb)
        have hn : narrow .byte (.int x) = .int x := by
          show Value.int x.toInt8.toInt32 = .int x
          rw [e1]
        show (if narrow .byte (.int x) = .int x then some (some (Value.int x)) else none) = _
        exact if_pos hn
    · cases hs
  · split at hs
    · cases hs
      cases st with
      | nil => exact h.elim
      | cons v l =>
        cases l with
        | nil =>
          obtain ⟨⟨x, rfl, hx⟩, -⟩ := h
          exact ⟨some (.long x), rfl, rfl, ⟨x, rfl, hx⟩, _, List.mem_singleton.mpr rfl, rfl⟩
        | cons w l => exact h.2.elim
    · cases hs
  · split at hs
    · rename_i c a
      cases hc : srf a.1 with
      | false => rw [hc] at hs; cases hs
      | true =>
        rw [hc] at hs
        cases hs
        cases st with
        | nil => exact h.elim
        | cons v l =>
          cases l with
          | nil =>
            have h1 : sVal ρ v a := h.1
            rcases srf_ok h1 hc with rfl | ⟨k, rfl⟩
            · exact ⟨some .null, rfl, rfl, h1, a, List.mem_singleton.mpr rfl, rfl⟩
            · exact ⟨some (.ref k), rfl, rfl, h1, a, List.mem_singleton.mpr rfl, rfl⟩
          | cons w l => exact h.2.elim
    · cases hs
  · cases hs
