/-! THE ENGINE, 20: a contract is made use of -/
/-- what is asked for, what may change, what is given, rank, depth, heads of loops (place, state, rank) -/
abbrev sCt : Type := sTm × List sMo × List sTm × sE × sE × List (Nat × sTm × sE)
def tsm (τ : List sE) (m : sMo) : sMo := (m.1, m.2.1, m.2.2.1, tsb τ m.2.2.2.1, tsb τ m.2.2.2.2)
def thit (K : sK) (g : sF) (m : sMo) : Bool := match g.1 with
  | 0 => !(Nat.beq m.1 0) || (!(Nat.beq m.2.1 g.2.1) || !(Nat.beq m.2.2.1 g.2.2.1))
  | _ => !(Nat.beq m.1 1) || (!(Nat.beq m.2.1 g.2.1) || (sge0 K (sP1 (ssub m.2.2.2.1 g.2.2.2.2.1)) || sge0 K (sP1 (ssub g.2.2.2.2.1 m.2.2.2.2))))
def tin (K : sK) (mods : List sMo) (m : sMo) : Bool := mods.any fun p => Nat.beq p.1 m.1 && (Nat.beq p.2.1 m.2.1 && (match m.1 with
  | 0 => Nat.beq p.2.2.1 m.2.2.1
  | _ => sge0 K (ssub m.2.2.2.1 p.2.2.2.1) && sge0 K (ssub p.2.2.2.2 m.2.2.2.2)))
theorem thit_ok {ρ : Nat → Int} {K : sK} (hK : skok ρ K) {ms : List sMo} {M M' : zM} {g : sF} (hf : sFrm ρ ms M M') (hg : sFac ρ M g) (hs : ms.all (thit K g) = true) : sFac ρ M' g := by
  obtain ⟨d, c, j, o, i, t, q, e⟩ := g
  unfold sFac sFacE at hg ⊢
  dsimp only at hg ⊢
  cases d with
  | zero =>
    obtain ⟨k, h1, h2, h3⟩ := hg
    refine ⟨k, h1, h2, ?_⟩
    rw [hf.1 k c j h2]
    · exact h3
    · rintro m hm ⟨a1, a2, a3⟩
      have := List.all_eq_true.mp hs m hm
      unfold thit at this
      simp only [Bool.or_eq_true] at this
      rcases this with q | q | q
      · exact sbeqf q a1
      · exact sbeqf q a2
      · exact sbeqf q a3
  | succ d =>
    obtain ⟨k, n, h1, h2, h3, h4, h5⟩ := hg
    refine ⟨k, n, h1, h2, h3, h4, ?_⟩
    rw [hf.2 c k n h3 h4]
    · exact h5
    · rintro m hm ⟨a1, a2, a3, a4⟩
      have := List.all_eq_true.mp hs m hm
      unfold thit at this
      simp only [Bool.or_eq_true] at this
      rcases this with q | q | q | q
      · exact sbeqf q a1
      · exact sbeqf q a2
      · have := sge0_ok hK q
        rw [se_P1, se_sub] at this
        omega
      · have := sge0_ok hK q
        rw [se_P1, se_sub] at this
        omega
theorem tin_ok {ρ : Nat → Int} {K : sK} (hK : skok ρ K) {mods ms : List sMo} {M M' : zM} (hf : sFrm ρ ms M M') (hs : ms.all (tin K mods) = true) : sFrm ρ mods M M' := by
  refine ⟨fun k c j h1 h2 => hf.1 k c j h1 ?_, fun r o i h1 h0 h2 => hf.2 r o i h1 h0 ?_⟩
  · rintro m hm ⟨a1, a2, a3⟩
    obtain ⟨p, hp, q⟩ := List.any_eq_true.mp (List.all_eq_true.mp hs m hm)
    simp only [Bool.and_eq_true] at q
    obtain ⟨q1, q2, q3⟩ := q
    rw [a1] at q3
    exact h2 p hp ⟨(Nat.eq_of_beq_eq_true q1).trans a1, (Nat.eq_of_beq_eq_true q2).trans a2, (Nat.eq_of_beq_eq_true q3).trans a3⟩
  · rintro m hm ⟨a1, a2, a3, a4⟩
    obtain ⟨p, hp, q⟩ := List.any_eq_true.mp (List.all_eq_true.mp hs m hm)
    simp only [Bool.and_eq_true] at q
    obtain ⟨q1, q2, q3⟩ := q
    rw [a1] at q3
    have q3 : (sge0 K (ssub m.2.2.2.1 p.2.2.2.1) && sge0 K (ssub p.2.2.2.2 m.2.2.2.2)) = true := q3
    rw [Bool.and_eq_true] at q3
    have b1 := sge0_ok hK q3.1
    have b2 := sge0_ok hK q3.2
    rw [se_sub] at b1 b2
    exact h2 p hp ⟨(Nat.eq_of_beq_eq_true q1).trans a1, (Nat.eq_of_beq_eq_true q2).trans a2, by omega, by omega⟩
theorem sFrm_sb {σ : Nat → Int} {τ : List sE} {mods : List sMo} {M M' : zM} (h : sFrm (tmn σ τ) mods M M') : sFrm σ (mods.map (tsm τ)) M M' := by
  refine ⟨fun k c j h1 h2 => h.1 k c j h1 fun m hm q => h2 (tsm τ m) (List.mem_map_of_mem hm) q, fun r o i h1 h0 h2 => h.2 r o i h1 h0 fun m hm q => h2 (tsm τ m) (List.mem_map_of_mem hm) ⟨q.1, q.2.1, ?_, ?_⟩⟩
  · show se σ (tsb τ m.2.2.2.1) ≤ _
    rw [se_sb]
    exact q.2.2.1
  · show _ ≤ se σ (tsb τ m.2.2.2.2)
    rw [se_sb]
    exact q.2.2.2
/-- symbols more -/
def tfr (n k : Nat) : List sE := (List.range k).map fun j => sS (n + j)
def tsV (τ : List sE) (a : sV) : sV := (a.1, a.2.1, tsb τ a.2.2)
def tsF (τ : List sE) (f : sF) : sF := (f.1, f.2.1, f.2.2.1, tsb τ f.2.2.2.1, tsb τ f.2.2.2.2.1, tsV τ f.2.2.2.2.2)
def tres (l : List (Nat × sV)) (b : Bool) : Bool := match l, b with
  | [], false => true
  | [(0, _)], true => true
  | _, _ => false
def vres (v : Option Value) : zL := match v with
  | some x => [(0, x)]
  | none => []
def tpo (hM : sA → List sMo → List sQ) (A : sA) (τ : List sE) (post : sTm) (ms : List sMo) : Option sA := match A with
  | (K, D, F, Q, L, T) => match sasm (post.2.1.map (tsb (τ ++ tfr K.1.length post.1.length))) (K.1 ++ tB post.1, K.2) with
    | some K2 => some (K2, D, (tFs τ.length post.1).map (tsF (τ ++ tfr K.1.length post.1.length)) ++ F.filter (fun g => ms.all (thit K g)), (post.2.2.map fun q => (q.1, q.2.map (tsb (τ ++ tfr K.1.length post.1.length)))) ++ hM (K, D, F, Q, L, T) ms, L, ((tLs τ.length post.1).map fun p => tsV (τ ++ tfr K.1.length post.1.length) p.2) ++ T)
    | none => none
section TPO
variable {Qs : Nat → List Int → zM → Prop} {hM : sA → List sMo → List sQ} {K : sK} {D : List sD} {F : List sF} {Q : List sQ} {L : List (Nat × sV)} {T : List sV} {ls : zL} {st : List Value} {M M' : zM}
theorem sR_ext {σ σ2 : Nat → Int} (h : sR Qs σ (K, D, F, Q, L, T) ls st M) (ha : sagr K.1.length σ σ2) {B : sB} (hB : sok σ2 B) (hle : K.1.length ≤ B.length) : sR Qs σ2 ((B, K.2), D, F, Q, L, T) ls st M := by
  obtain ⟨h1, h2, h3, h4, h5, h6, h7, w1, w2, w3, w4, w5, w6⟩ := h
  refine ⟨⟨hB, fun p hp => ?_⟩, fun d hd => sDok_agr ha (w2 d hd) (h2 d hd), fun f hf => sFac_agr ha (w3 f hf) (h3 f hf), fun q hq => ?_, fun p hp => ?_, sStk_agr ha w6 h6, h7, fun p hp => (w1 p hp).le hle, fun d hd => ⟨(w2 d hd).1.le hle, (w2 d hd).2.1.le hle, Nat.lt_of_lt_of_le (w2 d hd).2.2 hle⟩, fun f hf => ⟨(w3 f hf).1.le hle, (w3 f hf).2.1.le hle, swE.le (w3 f hf).2.2 hle⟩, fun q hq e he => (w4 q hq e he).le hle, fun p hp => swE.le (w5 p hp) hle, fun a ha => swE.le (w6 a ha) hle⟩
  · rw [se_agr ha (w1 p hp)]
    exact h1.2 p hp
  · have e : q.2.map (se σ2) = q.2.map (se σ) := List.map_congr_left fun e he => se_agr ha (w4 q hq e he)
    rw [e]
    exact h4 q hq
  · obtain ⟨u, u1, u2⟩ := h5 p hp
    exact ⟨u, u1, sVal_agr ha (w5 p hp) u2⟩
theorem tpo_ok (HM : sHM Qs hM) {σ σc : Nat → Int} (h : sR Qs σ (K, D, F, Q, L, T) ls st M) {τ : List sE} (hτ : ∀ e ∈ τ, swE K.1.length e) {mods : List sMo} {bs0 : sB} {post : sTm} (hn : τ.length = bs0.length) (hw : twf bs0.length post = true) (hwm : ∀ m ∈ mods, swE K.1.length (tsb τ m.2.2.2.1) ∧ swE K.1.length (tsb τ m.2.2.2.2)) {v : Option Value} {b : Bool} (hb : v.isSome = b) (ht : tres (tLs bs0.length post.1) b = true) (hf : sFrm (tmn σ τ) mods M M') (hc : sagr bs0.length (tmn σ τ) σc) (hp : sR Qs σc (tst bs0 post) (vres v) [] M') : ∃ A2, tpo hM (K, D, F, Q, L, T) τ post (mods.map (tsm τ)) = some A2 ∧ ∃ σ2, sagr K.1.length σ σ2 ∧ K.1.length ≤ A2.1.1.length ∧ sR Qs σ2 A2 ls (v.toList ++ st) M' := by
  unfold tpo
  dsimp only
  rw [hn]
  generalize hτ2 : τ ++ tfr K.1.length post.1.length = τ2
  have hsm := sFrm_sb hf
  obtain ⟨p1, -, p3, p4, p5, -, p7, w1, -, w3, w4, w5, -⟩ := hp
  have hl0 : (bs0 ++ tB post.1).length = bs0.length + post.1.length := by rw [List.length_append, tB_len]
  have wl : ∀ {n : Nat}, (tst bs0 post).1.1.length = n → n = bs0.length + post.1.length := fun e => e.symm.trans hl0
  -- the new meaning
  let σ2 : Nat → Int := fun x => if x < K.1.length then σ x else σc (bs0.length + (x - K.1.length))
  have ha : sagr K.1.length σ σ2 := fun x hx => if_pos hx
  have hhi : ∀ x, σ2 (K.1.length + x) = σc (bs0.length + x) := fun x => by
    show (if K.1.length + x < K.1.length then _ else _) = _
    rw [if_neg (by omega), Nat.add_sub_cancel_left]
  have hB : sok σ2 (K.1 ++ tB post.1) := by
    intro x
    show ((K.1 ++ tB post.1).getD x (0, 0)).1 ≤ σ2 x ∧ σ2 x ≤ ((K.1 ++ tB post.1).getD x (0, 0)).2
    rcases Nat.lt_or_ge x K.1.length with q | q
    · have := h.1.1 x
      rw [ha x q, List.getD_eq_getElem?_getD, List.getElem?_append_left q, ← List.getD_eq_getElem?_getD]
      exact this
    · obtain ⟨y, rfl⟩ : ∃ y, x = K.1.length + y := ⟨x - K.1.length, by omega⟩
      have := p1.1 (bs0.length + y)
      have this : ((bs0 ++ tB post.1).getD (bs0.length + y) (0, 0)).1 ≤ σc (bs0.length + y) ∧ σc (bs0.length + y) ≤ ((bs0 ++ tB post.1).getD (bs0.length + y) (0, 0)).2 := this
      rw [List.getD_eq_getElem?_getD, List.getElem?_append_right (Nat.le_add_right _ _), Nat.add_sub_cancel_left] at this
      rw [hhi, List.getD_eq_getElem?_getD, List.getElem?_append_right (Nat.le_add_right _ _), Nat.add_sub_cancel_left]
      exact this
  have hle : K.1.length ≤ (K.1 ++ tB post.1).length := by rw [List.length_append]; exact Nat.le_add_right _ _
  have hlen2 : (K.1 ++ tB post.1).length = K.1.length + post.1.length := by rw [List.length_append, tB_len]
  have h2 := sR_ext h ha hB hle
  have hget : ∀ x, x < bs0.length + post.1.length → tmn σ2 τ2 x = σc x := by
    intro x hx
    unfold tmn
    rw [← hτ2]
    rcases Nat.lt_or_ge x bs0.length with q | q
    · rw [List.getD_eq_getElem?_getD, List.getElem?_append_left (by omega), ← List.getD_eq_getElem?_getD, se_agr ha (tget_wf hτ x)]
      exact (hc x q).symm
    · rw [List.getD_eq_getElem?_getD, List.getElem?_append_right (by omega)]
      unfold tfr
      rw [List.getElem?_map, List.getElem?_range (by omega)]
      show se σ2 (sS (K.1.length + (x - τ.length))) = σc x
      rw [se_S, hhi, hn, Nat.add_sub_cancel' q]
  have hse : ∀ {e : sE}, swE (bs0.length + post.1.length) e → se σ2 (tsb τ2 e) = se σc e := fun {e} w => by
    rw [se_sb]
    exact (se_agr (n := bs0.length + post.1.length) (fun x hx => hget x hx) w)
  have hτw : ∀ e ∈ τ2, swE (K.1 ++ tB post.1).length e := by
    intro e he
    rw [← hτ2] at he
    rcases List.mem_append.mp he with q | q
    · exact (hτ e q).le hle
    · unfold tfr at q
      obtain ⟨j, hj, rfl⟩ := List.mem_map.mp q
      have := List.mem_range.mp hj
      exact swE_S (by rw [hlen2]; omega)
  -- memory, facts, predicates
  have wms : swM K.1.length (mods.map (tsm τ)) := fun m hm => by
    obtain ⟨m0, h0, rfl⟩ := List.mem_map.mp hm
    exact hwm m0 h0
  have hQ := HM σ (K, D, F, Q, L, T) ls st M M' _ h wms hsm p7
  have h3 : sR Qs σ2 ((K.1 ++ tB post.1, K.2), D, (tFs bs0.length post.1).map (tsF τ2) ++ F.filter (fun g => (mods.map (tsm τ)).all (thit K g)), (post.2.2.map fun q => (q.1, q.2.map (tsb τ2))) ++ hM (K, D, F, Q, L, T) (mods.map (tsm τ)), L, T) ls st M' := by
    refine sR_st h2 p7 (fun g hg => ?_) (fun q hq => ?_)
    · rcases List.mem_append.mp hg with hg | hg
      · obtain ⟨f, hf1, rfl⟩ := List.mem_map.mp hg
        have g1 := p3 f hf1
        obtain ⟨g2, g3, g4⟩ := w3 f hf1
        have e0 : (tst bs0 post).1.1.length = bs0.length + post.1.length := hl0
        rw [e0] at g2 g3 g4
        refine ⟨?_, swE_sb hτw _, swE_sb hτw _, swE_sb hτw _⟩
        show sFacE (se σ2 (tsb τ2 f.2.2.2.1)) (se σ2 (tsb τ2 f.2.2.2.2.1)) (se σ2 (tsb τ2 f.2.2.2.2.2.2.2)) M' f.1 f.2.1 f.2.2.1 f.2.2.2.2.2.1 f.2.2.2.2.2.2.1
        rw [hse g2, hse g3, hse g4]
        exact g1
      · obtain ⟨g1, g2⟩ := List.mem_filter.mp hg
        have wg := h.2.2.2.2.2.2.2.2.2.1 g g1
        exact ⟨sFac_agr ha wg (thit_ok h.1 hsm (h.2.2.1 g g1) g2), wg.1.le hle, wg.2.1.le hle, swE.le wg.2.2 hle⟩
    · rcases List.mem_append.mp hq with hq | hq
      · obtain ⟨q0, q1, rfl⟩ := List.mem_map.mp hq
        have g1 := p4 q0 q1
        refine ⟨?_, fun e he => ?_⟩
        · show Qs q0.1 ((q0.2.map (tsb τ2)).map (se σ2)) M'
          have e1 : (q0.2.map (tsb τ2)).map (se σ2) = q0.2.map (se σc) := by
            rw [List.map_map]
            refine List.map_congr_left fun e he => hse ?_
            have := w4 q0 q1 e he
            rw [show (tst bs0 post).1.1.length = bs0.length + post.1.length from hl0] at this
            exact this
          rw [e1]
          exact g1
        · obtain ⟨e0, -, rfl⟩ := List.mem_map.mp he
          exact swE_sb hτw _
      · obtain ⟨g1, g2⟩ := hQ q hq
        have e1 : q.2.map (se σ2) = q.2.map (se σ) := List.map_congr_left fun e he => se_agr ha (g2 e he)
        exact ⟨by rw [e1]; exact g1, fun e he => (g2 e he).le hle⟩
  -- the answer
  have h4 : sR Qs σ2 ((K.1 ++ tB post.1, K.2), D, (tFs bs0.length post.1).map (tsF τ2) ++ F.filter (fun g => (mods.map (tsm τ)).all (thit K g)), (post.2.2.map fun q => (q.1, q.2.map (tsb τ2))) ++ hM (K, D, F, Q, L, T) (mods.map (tsm τ)), L, ((tLs bs0.length post.1).map fun p => tsV τ2 p.2) ++ T) ls (v.toList ++ st) M' := by
    unfold tres at ht
    split at ht
    · rename_i heq
      cases v with
      | none => rw [heq]; exact h3
      | some x => cases hb
    · rename_i a heq
      cases v with
      | none => cases hb
      | some x =>
        have g5 := p5 (0, a) (by show (0, a) ∈ tLs bs0.length post.1; rw [heq]; exact List.mem_singleton.mpr rfl)
        have g6 := w5 (0, a) (by show (0, a) ∈ tLs bs0.length post.1; rw [heq]; exact List.mem_singleton.mpr rfl)
        rw [show (tst bs0 post).1.1.length = bs0.length + post.1.length from hl0] at g6
        obtain ⟨y, y1, y2⟩ := g5
        have y1 : zget [(0, x)] 0 = some y := y1
        rw [zget_cons, if_pos rfl] at y1
        cases y1
        rw [heq]
        refine sR_push (v := x) (a := tsV τ2 a) h3 ?_ (swE_sb hτw _)
        show sValE (se σ2 (tsb τ2 a.2.2)) x a.1 a.2.1
        rw [hse g6]
        exact y2
    · cases ht
  unfold twf at hw
  simp only [Bool.and_eq_true] at hw
  obtain ⟨K3, k1, k2, k3⟩ := sR_asm h4 (l := post.2.1.map (tsb τ2)) (fun e he => by
      obtain ⟨e0, -, rfl⟩ := List.mem_map.mp he
      exact swE_sb hτw _) (fun e he => by
      obtain ⟨e0, h0, rfl⟩ := List.mem_map.mp he
      rw [hse (twE_ok (List.all_eq_true.mp hw.2.1 e0 h0))]
      exact p1.2 e0 h0)
  rw [k1]
  exact ⟨_, rfl, σ2, ha, by show K.1.length ≤ K3.1.length; rw [k2]; exact hle, k3⟩
end TPO
