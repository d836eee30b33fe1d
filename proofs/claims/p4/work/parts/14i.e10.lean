/-! THE ENGINE, 10: all that stays in the frame -/
/-- lookupswitch: each key on its own, and the rest -/
def slk (pc : Nat) (K : sK) (e : sE) (mk : sK → sA) (d : Nat) : List (Int × Int) → Option (List (Nat × sA))
  | [] => some [(d, mk K)]
  | q :: l => match zjmp pc q.2 with
    | some t => (match slk pc K e mk d l with
      | some r => some (ssw1 K [ssub e (sC q.1), ssub (sC q.1) e] t mk ++ r)
      | none => none)
    | none => none
def sst0 (pc nL : Nat) (A : sA) (i : Instr) (len : Nat) : Option (List (Nat × sA)) := match A with
  | (K, D, F, Q, L, T) => match i with
    | .iconst n => some [(pc + 1, K, D, F, Q, L, (0, 0, sC (Int32.ofInt n).toInt) :: T)]
    | .bipush n => some [(pc + 2, K, D, F, Q, L, (0, 0, sC (Int8.ofInt n).toInt32.toInt) :: T)]
    | .sipush n => some [(pc + 3, K, D, F, Q, L, (0, 0, sC (Int16.ofInt n).toInt32.toInt) :: T)]
    | .lconst n => some [(pc + 1, K, D, F, Q, L, (1, 0, sC (Int64.ofNat (n : Nat)).toInt) :: T)]
    | .aconst_null => some [(pc + 1, K, D, F, Q, L, (2, 0, sC 0) :: T)]
    | .iload_n k => (match sgl L k with
      | some (0, q, e) => some [(pc + 1, K, D, F, Q, L, (0, q, e) :: T)]
      | _ => none)
    | .iload k => (match sgl L k with
      | some (0, q, e) => some [(pc + 2, K, D, F, Q, L, (0, q, e) :: T)]
      | _ => none)
    | .lload_n k => (match sgl L k with
      | some (1, q, e) => some [(pc + 1, K, D, F, Q, L, (1, q, e) :: T)]
      | _ => none)
    | .lload k => (match sgl L k with
      | some (1, q, e) => some [(pc + 2, K, D, F, Q, L, (1, q, e) :: T)]
      | _ => none)
    | .aload_n k => (match sgl L k with
      | some a => cond (srf a.1) (some [(pc + 1, K, D, F, Q, L, a :: T)]) none
      | _ => none)
    | .aload k => (match sgl L k with
      | some a => cond (srf a.1) (some [(pc + 2, K, D, F, Q, L, a :: T)]) none
      | _ => none)
    | .istore_n k => (match T with
      | (0, q, e) :: T' => cond (Nat.blt k nL) (some [(pc + 1, K, D, F, Q, sput1 L k (0, q, e), T')]) none
      | _ => none)
    | .istore k => (match T with
      | (0, q, e) :: T' => cond (Nat.blt k nL) (some [(pc + 2, K, D, F, Q, sput1 L k (0, q, e), T')]) none
      | _ => none)
    | .lstore_n k => (match T with
      | (1, q, e) :: T' => cond (Nat.blt (k + 1) nL) (some [(pc + 1, K, D, F, Q, sput2 L k (1, q, e), T')]) none
      | _ => none)
    | .lstore k => (match T with
      | (1, q, e) :: T' => cond (Nat.blt (k + 1) nL) (some [(pc + 2, K, D, F, Q, sput2 L k (1, q, e), T')]) none
      | _ => none)
    | .astore_n k => (match T with
      | a :: T' => cond (srf a.1 && Nat.blt k nL) (some [(pc + 1, K, D, F, Q, sput1 L k a, T')]) none
      | _ => none)
    | .astore k => (match T with
      | a :: T' => cond (srf a.1 && Nat.blt k nL) (some [(pc + 2, K, D, F, Q, sput1 L k a, T')]) none
      | _ => none)
    | .iinc k n => (match sgl L k with
      | some (0, _, e) => cond (Nat.blt k nL) (let p := scut K (sadd e (sC (Int32.ofInt n).toInt)) sI32; some [(pc + 3, p.1, D, F, Q, sput1 L k (0, 0, p.2), T)]) none
      | _ => none)
    | .dup => (match T with
      | a :: T' => cond (sc1 a.1) (some [(pc + 1, K, D, F, Q, L, a :: a :: T')]) none
      | _ => none)
    | .pop => (match T with
      | a :: T' => cond (sc1 a.1) (some [(pc + 1, K, D, F, Q, L, T')]) none
      | _ => none)
    | .pop2 => (match T with
      | (1, _, _) :: T' => some [(pc + 1, K, D, F, Q, L, T')]
      | _ => none)
    | .dup_x1 => (match T with
      | a :: b :: T' => cond (sc1 a.1 && sc1 b.1) (some [(pc + 1, K, D, F, Q, L, a :: b :: a :: T')]) none
      | _ => none)
    | .dup2 => (match T with
      | a :: b :: T' => cond (sc1 a.1 && sc1 b.1) (some [(pc + 1, K, D, F, Q, L, a :: b :: a :: b :: T')]) none
      | _ => none)
    | .i2l => (match T with
      | (0, _, e) :: T' => some [(pc + 1, K, D, F, Q, L, (1, 0, e) :: T')]
      | _ => none)
    | .l2i => (match T with
      | (1, _, e) :: T' => (let p := scut K e sI32; some [(pc + 1, p.1, D, F, Q, L, (0, 0, p.2) :: T')])
      | _ => none)
    | .lneg => (match T with
      | (1, _, e) :: T' => (let p := scut K (sneg e) sI64; some [(pc + 1, p.1, D, F, Q, L, (1, 0, p.2) :: T')])
      | _ => none)
    | .lcmp => (match T with
      | (1, _, b) :: (1, _, a) :: T' => some [(pc + 1, K, D, F, Q, L, (7, 0, ssub a b) :: T')]
      | _ => none)
    | .goto off => (match zjmp pc off with
      | some t => some [(t, K, D, F, Q, L, T)]
      | none => none)
    | .ifCond c off => (match zjmp pc off with
      | some t => (match T with
        | (0, _, e) :: T' => some (sbr2 K true c e t (pc + 3) fun K' => (K', D, F, Q, L, T'))
        | (7, _, e) :: T' => some (sbr2 K true c e t (pc + 3) fun K' => (K', D, F, Q, L, T'))
        | _ => none)
      | none => none)
    | .if_icmp c off => (match zjmp pc off with
      | some t => (match T with
        | (0, _, b) :: (0, _, a) :: T' => some (sbr2 K false c (ssub a b) t (pc + 3) fun K' => (K', D, F, Q, L, T'))
        | _ => none)
      | none => none)
    | .ifnull off => (match zjmp pc off with
      | some t => (match T with
        | (2, _, _) :: T' => some [(t, K, D, F, Q, L, T')]
        | a :: T' => cond (srf a.1 && !(Nat.beq a.1 11)) (some [(pc + 3, K, D, F, Q, L, T')]) none
        | _ => none)
      | none => none)
    | .ifnonnull off => (match zjmp pc off with
      | some t => (match T with
        | (2, _, _) :: T' => some [(pc + 3, K, D, F, Q, L, T')]
        | a :: T' => cond (srf a.1 && !(Nat.beq a.1 11)) (some [(t, K, D, F, Q, L, T')]) none
        | _ => none)
      | none => none)
    | .tableswitch dflt lo hi offs => (match T with
      | (0, _, e) :: T' => (match zjmp pc dflt with
        | some t => cond (siz (hi - lo + 1 - offs.toList.length)) (match ssw pc K e (fun K' => (K', D, F, Q, L, T')) lo offs.toList with
          | some r => some (ssw1 K [ssub (sC (lo - 1)) e] t (fun K' => (K', D, F, Q, L, T')) ++ (ssw1 K [ssub e (sC (hi + 1))] t (fun K' => (K', D, F, Q, L, T')) ++ r))
          | none => none) none
        | none => none)
      | _ => none)
    | .lookupswitch dflt ps => (match T with
      | (0, _, e) :: T' => cond ((ps.toList.zip (ps.toList.drop 1)).all fun (a, next) => a.1 < next.1) (match zjmp pc dflt with
        | some t => slk pc K e (fun K' => (K', D, F, Q, L, T')) t ps.toList
        | none => none) none
      | _ => none)
    | i => sstB pc (K, D, F, Q, L, T) i
theorem srf_ref {ρ : Nat → Int} {v : Value} {a : sV} (h : sVal ρ v a) (hc : (srf a.1 && !(Nat.beq a.1 11)) = true) (h2 : a.1 ≠ 2) : ∃ k, v = .ref k := by
  obtain ⟨t, q, e⟩ := a
  rw [Bool.and_eq_true] at hc
  have h11 : t ≠ 11 := fun q => by
    have := hc.2
    dsimp only at this
    rw [q] at this
    cases this
  have hc := hc.1
  unfold srf at hc
  have h2 : t ≠ 2 := h2
  unfold sVal at h
  have : t = 3 ∨ t = 4 ∨ t = 5 ∨ t = 6 ∨ t = 8 ∨ t = 10 := by
    simp only [Bool.or_eq_true, Bool.and_eq_true] at hc
    rcases hc with ⟨h1, h3, h4⟩ | hc | hc
    · have h1 : 2 ≤ t := Nat.le_of_ble_eq_true h1
      have h3 : t ≤ 8 := Nat.le_of_ble_eq_true h3
      have h4 : Nat.beq t 7 = false := by simpa using h4
      have h4 : t ≠ 7 := Nat.ne_of_beq_eq_false h4
      omega
    · have : t = 10 := Nat.eq_of_beq_eq_true hc
      omega
    · have : t = 11 := Nat.eq_of_beq_eq_true hc
      omega
  rcases this with rfl | rfl | rfl | rfl | rfl | rfl
  · obtain ⟨x, rfl, -⟩ := h; exact ⟨_, rfl⟩
  · obtain ⟨x, o, rfl, -⟩ := h; exact ⟨_, rfl⟩
  · obtain ⟨x, o, rfl, -⟩ := h; exact ⟨_, rfl⟩
  · exact ⟨_, h.1⟩
  · obtain ⟨x, o, rfl, -⟩ := h; exact ⟨_, rfl⟩
  · exact ⟨_, h.1⟩
section SST0
variable {Qs : Nat → List Int → zM → Prop} {ρ : Nat → Int} {K : sK} {D : List sD} {F : List sF} {Q : List sQ} {L : List (Nat × sV)} {T : List sV} {ls : zL} {st : List Value} {M : zM}
theorem sgl_ok (h : sR Qs ρ (K, D, F, Q, L, T) ls st M) {i : Nat} {a : sV} (hi : sgl L i = some a) : ∃ v, zget ls i = some v ∧ sVal ρ v a ∧ swV K.1.length a := by
  obtain ⟨p, h1, h2, h3⟩ := sgl_mem hi
  obtain ⟨v, v1, v2⟩ := h.2.2.2.2.1 p h1
  exact ⟨v, by rw [← h3]; exact v1, by rw [← h2]; exact v2, by rw [← h2]; exact h.2.2.2.2.2.2.2.2.2.2.2.1 p h1⟩
theorem slk_ok (h : sR Qs ρ (K, D, F, Q, L, T) ls st M) {pc d : Nat} {e : sE} (w : swE K.1.length e) {dflt : Int} (hd : zjmp pc dflt = some d) : ∀ (l : List (Int × Int)) (outs : List (Nat × sA)), slk pc K e (fun K' => (K', D, F, Q, L, T)) d l = some outs → ∃ t, zjmp pc (Op.lookupswitch.offset l dflt (se ρ e)) = some t ∧ sHit Qs ρ K.1.length outs t ls st M := by
  intro l
  induction l with
  | nil =>
    intro outs hs
    cases hs
    exact ⟨d, hd, sHit_0 h⟩
  | cons q l ih =>
    intro outs hs
    obtain ⟨k, o⟩ := q
    unfold slk at hs
    split at hs
    · rename_i t ht
      split at hs
      · rename_i r hr
        cases hs
        rw [Op.lookupswitch.offset_cons]
        by_cases hk : k = se ρ e
        · rw [if_pos hk]
          refine ⟨t, ht, sHit.l (ssw1_ok h ?_ ?_)⟩
          · exact List.forall_mem_cons.mpr ⟨swE_sub w (swE_C _), List.forall_mem_cons.mpr ⟨swE_sub (swE_C _) w, fun _ q => by cases q⟩⟩
          · refine List.forall_mem_cons.mpr ⟨?_, List.forall_mem_cons.mpr ⟨?_, fun _ q => by cases q⟩⟩
            · rw [se_sub, se_C]; omega
            · rw [se_sub, se_C]; omega
        · rw [if_neg hk]
          obtain ⟨t2, e1, e2⟩ := ih r hr
          exact ⟨t2, e1, sHit.r e2⟩
      · cases hs
    · cases hs
theorem sbltt {a b : Nat} (h : Nat.blt a b = true) : a < b := Nat.le_of_ble_eq_true h
set_option maxHeartbeats 4000000 in
theorem sst0_ok {A : sA} (h : sR Qs ρ A ls st M) {pc nL len : Nat} {i : Instr} {outs : List (Nat × sA)} (hs : sst0 pc nL A i len = some outs) : ∃ pc' ls' st', zs0 pc ls st nL i len = some (pc', ls', st') ∧ sHit Qs ρ A.1.1.length outs pc' ls' st' M := by
  obtain ⟨K, D, F, Q, L, T⟩ := A
  have w5 := h.2.2.2.2.2.2.2.2.2.2.2.1
  have hL := h.2.2.2.2.1
  cases i
  case iconst n => cases hs; exact ⟨_, _, _, rfl, sHit_0 (sR_push h ⟨_, rfl, (se_C _).symm⟩ (swE_C _))⟩
  case bipush n => cases hs; exact ⟨_, _, _, rfl, sHit_0 (sR_push h ⟨_, rfl, (se_C _).symm⟩ (swE_C _))⟩
  case sipush n => cases hs; exact ⟨_, _, _, rfl, sHit_0 (sR_push h ⟨_, rfl, (se_C _).symm⟩ (swE_C _))⟩
  case lconst n => cases hs; exact ⟨_, _, _, rfl, sHit_0 (sR_push h ⟨_, rfl, (se_C _).symm⟩ (swE_C _))⟩
  case aconst_null => cases hs; exact ⟨_, _, _, rfl, sHit_0 (sR_push (v := .null) (a := (2, 0, sC 0)) h rfl (swE_C _))⟩
  case iload_n k =>
    simp only [sst0] at hs
    split at hs
    · rename_i q e hg
      cases hs
      obtain ⟨v, v1, ⟨x, rfl, hx⟩, v3⟩ := sgl_ok h hg
      exact ⟨_, _, _, by simp only [zs0]; rw [v1], sHit_0 (sR_push (v := .int x) (a := (0, q, e)) h ⟨x, rfl, hx⟩ v3)⟩
    · cases hs
  case iload k =>
    simp only [sst0] at hs
    split at hs
    · rename_i q e hg
      cases hs
      obtain ⟨v, v1, ⟨x, rfl, hx⟩, v3⟩ := sgl_ok h hg
      exact ⟨_, _, _, by simp only [zs0]; rw [v1], sHit_0 (sR_push (v := .int x) (a := (0, q, e)) h ⟨x, rfl, hx⟩ v3)⟩
    · cases hs
  case lload_n k =>
    simp only [sst0] at hs
    split at hs
    · rename_i q e hg
      cases hs
      obtain ⟨v, v1, ⟨x, rfl, hx⟩, v3⟩ := sgl_ok h hg
      exact ⟨_, _, _, by simp only [zs0]; rw [v1], sHit_0 (sR_push (v := .long x) (a := (1, q, e)) h ⟨x, rfl, hx⟩ v3)⟩
    · cases hs
  case lload k =>
    simp only [sst0] at hs
    split at hs
    · rename_i q e hg
      cases hs
      obtain ⟨v, v1, ⟨x, rfl, hx⟩, v3⟩ := sgl_ok h hg
      exact ⟨_, _, _, by simp only [zs0]; rw [v1], sHit_0 (sR_push (v := .long x) (a := (1, q, e)) h ⟨x, rfl, hx⟩ v3)⟩
    · cases hs
  case aload_n k =>
    simp only [sst0] at hs
    split at hs
    · rename_i a hg
      cases hc : srf a.1 with
      | false => rw [hc] at hs; cases hs
      | true =>
        rw [hc] at hs
        cases hs
        obtain ⟨v, v1, v2, v3⟩ := sgl_ok h hg
        rcases srf_ok v2 hc with rfl | ⟨x, rfl⟩
        · exact ⟨_, _, _, by simp only [zs0]; rw [v1], sHit_0 (sR_push h v2 v3)⟩
        · exact ⟨_, _, _, by simp only [zs0]; rw [v1], sHit_0 (sR_push h v2 v3)⟩
    · cases hs
  case aload k =>
    simp only [sst0] at hs
    split at hs
    · rename_i a hg
      cases hc : srf a.1 with
      | false => rw [hc] at hs; cases hs
      | true =>
        rw [hc] at hs
        cases hs
        obtain ⟨v, v1, v2, v3⟩ := sgl_ok h hg
        rcases srf_ok v2 hc with rfl | ⟨x, rfl⟩
        · exact ⟨_, _, _, by simp only [zs0]; rw [v1], sHit_0 (sR_push h v2 v3)⟩
        · exact ⟨_, _, _, by simp only [zs0]; rw [v1], sHit_0 (sR_push h v2 v3)⟩
    · cases hs
  case istore_n k =>
    simp only [sst0] at hs
    split at hs
    · rename_i q e T'
      cases hk : Nat.blt k nL with
      | false => rw [hk] at hs; cases hs
      | true =>
        rw [hk] at hs
        cases hs
        obtain ⟨v, r, rfl, ⟨x, rfl, hx⟩, w, h'⟩ := sR_pop h
        exact ⟨_, _, _, by simp only [zs0]; rw [if_pos (sbltt hk)], sHit_0 (sR_loc h' (sput1_ok hL (v := .int x) (a := (0, q, e)) ⟨x, rfl, hx⟩) (sput1_wf w5 w))⟩
    · cases hs
  case istore k =>
    simp only [sst0] at hs
    split at hs
    · rename_i q e T'
      cases hk : Nat.blt k nL with
      | false => rw [hk] at hs; cases hs
      | true =>
        rw [hk] at hs
        cases hs
        obtain ⟨v, r, rfl, ⟨x, rfl, hx⟩, w, h'⟩ := sR_pop h
        exact ⟨_, _, _, by simp only [zs0]; rw [if_pos (sbltt hk)], sHit_0 (sR_loc h' (sput1_ok hL (v := .int x) (a := (0, q, e)) ⟨x, rfl, hx⟩) (sput1_wf w5 w))⟩
    · cases hs
  case lstore_n k =>
    simp only [sst0] at hs
    split at hs
    · rename_i q e T'
      cases hk : Nat.blt (k + 1) nL with
      | false => rw [hk] at hs; cases hs
      | true =>
        rw [hk] at hs
        cases hs
        obtain ⟨v, r, rfl, ⟨x, rfl, hx⟩, w, h'⟩ := sR_pop h
        exact ⟨_, _, _, by simp only [zs0]; rw [if_pos (sbltt hk)], sHit_0 (sR_loc h' (sput2_ok hL (v := .long x) (a := (1, q, e)) ⟨x, rfl, hx⟩) (sput2_wf w5 w))⟩
    · cases hs
  case lstore k =>
    simp only [sst0] at hs
    split at hs
    · rename_i q e T'
      cases hk : Nat.blt (k + 1) nL with
      | false => rw [hk] at hs; cases hs
      | true =>
        rw [hk] at hs
        cases hs
        obtain ⟨v, r, rfl, ⟨x, rfl, hx⟩, w, h'⟩ := sR_pop h
        exact ⟨_, _, _, by simp only [zs0]; rw [if_pos (sbltt hk)], sHit_0 (sR_loc h' (sput2_ok hL (v := .long x) (a := (1, q, e)) ⟨x, rfl, hx⟩) (sput2_wf w5 w))⟩
    · cases hs
  case astore_n k =>
    simp only [sst0] at hs
    split at hs
    · rename_i a T'
      cases hk : srf a.1 && Nat.blt k nL with
      | false => rw [hk] at hs; cases hs
      | true =>
        rw [hk] at hs
        cases hs
        rw [Bool.and_eq_true] at hk
        obtain ⟨v, r, rfl, hv, w, h'⟩ := sR_pop h
        have hg := sHit_0 (pc := pc + 1) (sR_loc h' (sput1_ok (i := k) hL hv) (sput1_wf w5 w))
        rcases srf_ok hv hk.1 with rfl | ⟨x, rfl⟩
        · exact ⟨_, _, _, by simp only [zs0]; rw [if_pos (sbltt hk.2)], hg⟩
        · exact ⟨_, _, _, by simp only [zs0]; rw [if_pos (sbltt hk.2)], hg⟩
    · cases hs
  case astore k =>
    simp only [sst0] at hs
    split at hs
    · rename_i a T'
      cases hk : srf a.1 && Nat.blt k nL with
      | false => rw [hk] at hs; cases hs
      | true =>
        rw [hk] at hs
        cases hs
        rw [Bool.and_eq_true] at hk
        obtain ⟨v, r, rfl, hv, w, h'⟩ := sR_pop h
        have hg := sHit_0 (pc := pc + 2) (sR_loc h' (sput1_ok (i := k) hL hv) (sput1_wf w5 w))
        rcases srf_ok hv hk.1 with rfl | ⟨x, rfl⟩
        · exact ⟨_, _, _, by simp only [zs0]; rw [if_pos (sbltt hk.2)], hg⟩
        · exact ⟨_, _, _, by simp only [zs0]; rw [if_pos (sbltt hk.2)], hg⟩
    · cases hs
  case iinc k n =>
    simp only [sst0] at hs
    split at hs
    · rename_i q e hg
      cases hk : Nat.blt k nL with
      | false => rw [hk] at hs; cases hs
      | true =>
        rw [hk] at hs
        cases hs
        obtain ⟨v, v1, ⟨x, rfl, hx⟩, v3⟩ := sgl_ok h hg
        have he : sRn sI32 (se ρ (sadd e (sC (Int32.ofInt n).toInt))) → (x + Int32.ofInt n).toInt = se ρ (sadd e (sC (Int32.ofInt n).toInt)) := by
          intro q
          have hx : x.toInt = se ρ e := hx
          rw [se_add, se_C, ← hx] at q ⊢
          exact sadd32 q
        obtain ⟨σ, g1, g2, g3, g4, g5⟩ := scut_ok h (swE_add v3 (swE_C _)) (sr32 (x + Int32.ofInt n)) he
        exact ⟨_, _, _, by simp only [zs0]; rw [v1]; dsimp only; rw [if_pos (sbltt hk)], sHit_1 g1 g2 (sR_loc g3 (sput1_ok g3.2.2.2.2.1 (v := .int (x + Int32.ofInt n)) (a := (0, 0, _)) ⟨_, rfl, g4.symm⟩) (sput1_wf g3.2.2.2.2.2.2.2.2.2.2.2.1 g5))⟩
    · cases hs
  case dup =>
    simp only [sst0] at hs
    split at hs
    · rename_i a T'
      cases hk : sc1 a.1 with
      | false => rw [hk] at hs; cases hs
      | true =>
        rw [hk] at hs
        cases hs
        obtain ⟨v, r, rfl, hv, w, h'⟩ := sR_pop h
        exact ⟨_, _, _, by simp only [zs0]; rw [if_pos (sc1_ok hv hk)], sHit_0 (sR_push (sR_push h' hv w) hv w)⟩
    · cases hs
  case pop =>
    simp only [sst0] at hs
    split at hs
    · rename_i a T'
      cases hk : sc1 a.1 with
      | false => rw [hk] at hs; cases hs
      | true =>
        rw [hk] at hs
        cases hs
        obtain ⟨v, r, rfl, hv, w, h'⟩ := sR_pop h
        exact ⟨_, _, _, by simp only [zs0]; rw [if_pos (sc1_ok hv hk)], sHit_0 h'⟩
    · cases hs
  case pop2 =>
    simp only [sst0] at hs
    split at hs
    · rename_i q e T'
      cases hs
      obtain ⟨v, r, rfl, ⟨x, rfl, hx⟩, w, h'⟩ := sR_pop h
      exact ⟨_, _, _, by simp only [zs0]; rw [if_pos (show (Value.long x).category = 2 from rfl)], sHit_0 h'⟩
    · cases hs
  case dup_x1 =>
    simp only [sst0] at hs
    split at hs
    · rename_i a b T'
      cases hk : sc1 a.1 && sc1 b.1 with
      | false => rw [hk] at hs; cases hs
      | true =>
        rw [hk] at hs
        cases hs
        rw [Bool.and_eq_true] at hk
        obtain ⟨v, r, rfl, hv, w, h'⟩ := sR_pop h
        obtain ⟨v2, r2, rfl, hv2, w2, h''⟩ := sR_pop h'
        exact ⟨_, _, _, by simp only [zs0]; rw [if_pos ⟨sc1_ok hv hk.1, sc1_ok hv2 hk.2⟩], sHit_0 (sR_push (sR_push (sR_push h'' hv w) hv2 w2) hv w)⟩
    · cases hs
  case dup2 =>
    simp only [sst0] at hs
    split at hs
    · rename_i a b T'
      cases hk : sc1 a.1 && sc1 b.1 with
      | false => rw [hk] at hs; cases hs
      | true =>
        rw [hk] at hs
        cases hs
        rw [Bool.and_eq_true] at hk
        obtain ⟨v, r, rfl, hv, w, h'⟩ := sR_pop h
        obtain ⟨v2, r2, rfl, hv2, w2, h''⟩ := sR_pop h'
        exact ⟨_, _, _, by simp only [zs0]; rw [if_pos ⟨sc1_ok hv hk.1, sc1_ok hv2 hk.2⟩], sHit_0 (sR_push (sR_push (sR_push (sR_push h'' hv2 w2) hv w) hv2 w2) hv w)⟩
    · cases hs
  case i2l =>
    simp only [sst0] at hs
    split at hs
    · rename_i q e T'
      cases hs
      obtain ⟨v, r, rfl, ⟨x, rfl, hx⟩, w, h'⟩ := sR_pop h
      exact ⟨_, _, _, rfl, sHit_0 (sR_push (v := .long x.toInt64) (a := (1, 0, e)) h' ⟨_, rfl, (Int32.toInt_toInt64 x).trans hx⟩ w)⟩
    · cases hs
  case l2i =>
    simp only [sst0] at hs
    split at hs
    · rename_i q e T'
      cases hs
      obtain ⟨v, r, rfl, ⟨x, rfl, hx⟩, w, h'⟩ := sR_pop h
      obtain ⟨σ, g1, g2, g3, g4, g5⟩ := scut_ok h' w (sr32 x.toInt32) (fun q => by
        have hx : x.toInt = se ρ e := hx
        rw [← hx] at q ⊢
        exact sl2i q)
      exact ⟨_, _, _, rfl, sHit_1 g1 g2 (sR_push (v := .int x.toInt32) (a := (0, 0, _)) g3 ⟨_, rfl, g4.symm⟩ g5)⟩
    · cases hs
  case lneg =>
    simp only [sst0] at hs
    split at hs
    · rename_i q e T'
      cases hs
      obtain ⟨v, r, rfl, ⟨x, rfl, hx⟩, w, h'⟩ := sR_pop h
      obtain ⟨σ, g1, g2, g3, g4, g5⟩ := scut_ok h' (swE_neg w) (sr64 (-x)) (fun q => by
        have hx : x.toInt = se ρ e := hx
        rw [se_neg, ← hx] at q ⊢
        exact sneg64 q)
      exact ⟨_, _, _, rfl, sHit_1 g1 g2 (sR_push (v := .long (-x)) (a := (1, 0, _)) g3 ⟨_, rfl, g4.symm⟩ g5)⟩
    · cases hs
  case lcmp =>
    simp only [sst0] at hs
    split at hs
    · rename_i q b q2 a T'
      cases hs
      obtain ⟨v, r, rfl, ⟨y, rfl, hy⟩, w, h'⟩ := sR_pop h
      obtain ⟨v2, r2, rfl, ⟨x, rfl, hx⟩, w2, h''⟩ := sR_pop h'
      refine ⟨_, _, _, rfl, sHit_0 (sR_push (v := .int (lg_cmp x y)) (a := (7, 0, ssub a b)) h'' ⟨_, rfl, ?_⟩ (swE_sub w2 w))⟩
      have hx : x.toInt = se ρ a := hx
      have hy : y.toInt = se ρ b := hy
      show ((lg_cmp x y).toInt = -1 ∧ se ρ (ssub a b) < 0) ∨ _
      rw [se_sub, ← hx, ← hy]
      unfold lg_cmp
      by_cases c1 : x > y
      · have := Int64.lt_iff_toInt_lt.mp c1
        rw [if_pos c1]
        exact Or.inr (Or.inr ⟨rfl, by omega⟩)
      · rw [if_neg c1]
        by_cases c2 : x = y
        · rw [if_pos c2]
          exact Or.inr (Or.inl ⟨rfl, by rw [c2]; omega⟩)
        · rw [if_neg c2]
          refine Or.inl ⟨rfl, ?_⟩
          have h3 : ¬ y.toInt < x.toInt := fun q => c1 (Int64.lt_iff_toInt_lt.mpr q)
          have h4 : x.toInt ≠ y.toInt := fun q => c2 (Int64.toInt_inj.mp q)
          omega
    · cases hs
  case goto off =>
    simp only [sst0] at hs
    split at hs
    · rename_i t ht
      cases hs
      exact ⟨_, _, _, by simp only [zs0]; rw [ht], sHit_0 h⟩
    · cases hs
  case ifCond c off =>
    simp only [sst0] at hs
    split at hs
    · rename_i t ht
      split at hs
      · rename_i q e T'
        cases hs
        obtain ⟨v, r, rfl, ⟨x, rfl, hx⟩, w, h'⟩ := sR_pop h
        have hx : x.toInt = se ρ e := hx
        exact ⟨_, _, _, by simp only [zs0]; rw [ht], sbr2_ok h' (by rw [← hx]; exact szc_0) w⟩
      · rename_i q e T'
        cases hs
        obtain ⟨v, r, rfl, ⟨x, rfl, hx⟩, w, h'⟩ := sR_pop h
        exact ⟨_, _, _, by simp only [zs0]; rw [ht], sbr2_ok h' (szc_7 hx) w⟩
      · cases hs
    · cases hs
  case if_icmp c off =>
    simp only [sst0] at hs
    split at hs
    · rename_i t ht
      split at hs
      · rename_i q b q2 a T'
        cases hs
        obtain ⟨v, r, rfl, ⟨y, rfl, hy⟩, w, h'⟩ := sR_pop h
        obtain ⟨v2, r2, rfl, ⟨x, rfl, hx⟩, w2, h''⟩ := sR_pop h'
        have hx : x.toInt = se ρ a := hx
        have hy : y.toInt = se ρ b := hy
        exact ⟨_, _, _, by simp only [zs0]; rw [ht], sbr2_ok h'' (by rw [se_sub, ← hx, ← hy]; exact szc_I) (swE_sub w2 w)⟩
      · cases hs
    · cases hs
  case ifnull off =>
    simp only [sst0] at hs
    split at hs
    · rename_i t ht
      split at hs
      · rename_i q e T'
        cases hs
        obtain ⟨v, r, rfl, hv, w, h'⟩ := sR_pop h
        have hv : v = .null := hv
        subst hv
        exact ⟨_, _, _, by simp only [zs0]; rw [ht], sHit_0 h'⟩
      · rename_i a T' hn
        cases hk : (srf a.1 && !(Nat.beq a.1 11)) with
        | false => rw [hk] at hs; cases hs
        | true =>
          rw [hk] at hs
          cases hs
          obtain ⟨v, r, rfl, hv, w, h'⟩ := sR_pop h
          have h2 : a.1 ≠ 2 := fun q => hn a.2.1 a.2.2 (Prod.ext q rfl)
          obtain ⟨x, rfl⟩ := srf_ref hv hk h2
          exact ⟨_, _, _, rfl, sHit_0 h'⟩
      · cases hs
    · cases hs
  case ifnonnull off =>
    simp only [sst0] at hs
    split at hs
    · rename_i t ht
      split at hs
      · rename_i q e T'
        cases hs
        obtain ⟨v, r, rfl, hv, w, h'⟩ := sR_pop h
        have hv : v = .null := hv
        subst hv
        exact ⟨_, _, _, rfl, sHit_0 h'⟩
      · rename_i a T' hn
        cases hk : (srf a.1 && !(Nat.beq a.1 11)) with
        | false => rw [hk] at hs; cases hs
        | true =>
          rw [hk] at hs
          cases hs
          obtain ⟨v, r, rfl, hv, w, h'⟩ := sR_pop h
          have h2 : a.1 ≠ 2 := fun q => hn a.2.1 a.2.2 (Prod.ext q rfl)
          obtain ⟨x, rfl⟩ := srf_ref hv hk h2
          exact ⟨_, _, _, by simp only [zs0]; rw [ht], sHit_0 h'⟩
      · cases hs
    · cases hs
  case tableswitch dflt lo hi offs =>
    simp only [sst0] at hs
    split at hs
    · rename_i q e T'
      split at hs
      · rename_i t ht
        cases hz : siz (hi - lo + 1 - offs.toList.length) with
        | false => rw [hz] at hs; cases hs
        | true =>
          rw [hz] at hs
          have hz := siz_0 hz
          dsimp only [cond] at hs
          split at hs
          · rename_i r hr
            cases hs
            obtain ⟨v, r0, rfl, ⟨x, rfl, hx⟩, w, h'⟩ := sR_pop h
            have hx : x.toInt = se ρ e := hx
            by_cases c : x.toInt < lo ∨ hi < x.toInt
            · refine ⟨t, ls, r0, by simp only [zs0]; rw [if_pos c, ht], ?_⟩
              rcases c with c | c
              · refine sHit.l (ssw1_ok h' (List.forall_mem_cons.mpr ⟨swE_sub (swE_C _) w, fun _ q => by cases q⟩) (List.forall_mem_cons.mpr ⟨?_, fun _ q => by cases q⟩))
                rw [se_sub, se_C]; omega
              · refine sHit.r (sHit.l (ssw1_ok h' (List.forall_mem_cons.mpr ⟨swE_sub w (swE_C _), fun _ q => by cases q⟩) (List.forall_mem_cons.mpr ⟨?_, fun _ q => by cases q⟩)))
                rw [se_sub, se_C]; omega
            · have hlen : (x.toInt - lo).toNat < offs.toList.length := by omega
              have hget : offs.toList[(x.toInt - lo).toNat]? = some (offs.toList[(x.toInt - lo).toNat]) := List.getElem?_eq_getElem hlen
              obtain ⟨t2, e1, e2⟩ := ssw_ok h' w offs.toList lo r hr _ _ hget (by omega)
              refine ⟨t2, ls, r0, ?_, sHit.r (sHit.r e2)⟩
              simp only [zs0]
              rw [if_neg c, ← Array.getElem?_toList, hget]
              dsimp only
              rw [e1]
          · cases hs
      · cases hs
    · cases hs
  case lookupswitch dflt ps =>
    simp only [sst0] at hs
    split at hs
    · rename_i q e T'
      cases hz : ((ps.toList.zip (ps.toList.drop 1)).all fun (a, next) => a.1 < next.1) with
      | false => rw [hz] at hs; cases hs
      | true =>
        rw [hz] at hs
        dsimp only [cond] at hs
        split at hs
        · rename_i t ht
          obtain ⟨v, r0, rfl, ⟨x, rfl, hx⟩, w, h'⟩ := sR_pop h
          have hx : x.toInt = se ρ e := hx
          obtain ⟨t2, e1, e2⟩ := slk_ok h' w ht _ _ hs
          refine ⟨t2, ls, r0, ?_, e2⟩
          simp only [zs0]
          rw [if_pos hz, hx, e1]
        · cases hs
    · cases hs
  all_goals (simp only [sst0] at hs; exact sstB_ok h hs)
end SST0
