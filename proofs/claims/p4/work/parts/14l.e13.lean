/-! THE ENGINE, 13: memory: one number changes -/
/-- what a call may change: fields (0, class, field); rows (1, role) from one place to another -/
abbrev sMo : Type := Nat × Nat × Nat × sE × sE
def sFrm (ρ : Nat → Int) (mods : List sMo) (M M' : zM) : Prop :=
  (∀ k c j : Nat, sSh k = some (0, c, 0) → (∀ m ∈ mods, ¬ (m.1 = 0 ∧ m.2.1 = c ∧ m.2.2.1 = j)) → sgf M' k j = sgf M k j) ∧
  (∀ r o i : Nat, sSh (o + soff r) = some (1, r, o) → i < srln r → (∀ m ∈ mods, ¬ (m.1 = 1 ∧ m.2.1 = r ∧ se ρ m.2.2.2.1 ≤ i ∧ (i : Int) ≤ se ρ m.2.2.2.2)) → sgr M' r o i = sgr M r o i)
theorem sFrm.rf {ρ : Nat → Int} {mods : List sMo} {M : zM} : sFrm ρ mods M M := ⟨fun _ _ _ _ _ => rfl, fun _ _ _ _ _ _ => rfl⟩
theorem sFrm.trans {ρ : Nat → Int} {mods : List sMo} {M M' M'' : zM} (h : sFrm ρ mods M M') (g : sFrm ρ mods M' M'') : sFrm ρ mods M M'' :=
  ⟨fun k c j h1 h2 => (g.1 k c j h1 h2).trans (h.1 k c j h1 h2), fun r o i h1 h0 h2 => (g.2 r o i h1 h0 h2).trans (h.2 r o i h1 h0 h2)⟩
def swM (n : Nat) (mods : List sMo) : Prop := ∀ m ∈ mods, swE n m.2.2.2.1 ∧ swE n m.2.2.2.2
theorem sFrm_agr {ρ σ : Nat → Int} {n : Nat} (h : sagr n ρ σ) {mods : List sMo} (w : swM n mods) {M M' : zM} (hf : sFrm σ mods M M') : sFrm ρ mods M M' := by
  refine ⟨hf.1, fun r o i h1 h0 h2 => hf.2 r o i h1 h0 fun m hm q => h2 m hm ?_⟩
  rw [se_agr h (w m hm).1, se_agr h (w m hm).2] at q
  exact q
/-- one field, one number of a row is another one -/
def sUpd (M M' : zM) (d c j k i : Nat) (v : Value) : Prop := match d with
  | 0 => (∀ k' c' j', sSh k' = some (0, c', 0) → sgf M' k' j' = if k' = k ∧ j' = j then v else sgf M k' j') ∧ (∀ r o i', sSh (o + soff r) = some (1, r, o) → sgr M' r o i' = sgr M r o i')
  | _ => (∀ k' c' j', sSh k' = some (0, c', 0) → sgf M' k' j' = sgf M k' j') ∧ (∀ r o i', sSh (o + soff r) = some (1, r, o) → sgr M' r o i' = if r = c ∧ o = k ∧ i' = i then (match v with
    | .int x => x
    | _ => 0) else sgr M r o i')
theorem sgf_def {M : zM} {k c : Nat} {fs : List Value} (h : M.2.2 k = .inr (c, fs)) (j : Nat) : sgf M k j = fs.getD j .null := by
  unfold sgf
  rw [h]
theorem sgr_def {M : zM} {r o t n : Nat} {f : Nat → Int32} (h : M.2.2 (o + soff r) = .inl (t, n, .inl f)) (i : Nat) : sgr M r o i = f i := by
  unfold sgr
  rw [h]
theorem zset_at {M : zM} {k j : Nat} {e : zE} : (zset M k e).2.2 j = if j = k then e else M.2.2 j := rfl
theorem sgf_set {M : zM} {k j k' : Nat} {e : zE} (h : k' ≠ k) : sgf (zset M k e) k' j = sgf M k' j := by
  unfold sgf
  rw [zset_at, if_neg h]
theorem sgr_set {M : zM} {k r o i : Nat} {e : zE} (h : o + soff r ≠ k) : sgr (zset M k e) r o i = sgr M r o i := by
  unfold sgr
  rw [zset_at, if_neg h]
theorem sMem_setF {M : zM} (h : sMem M) {k c : Nat} (hk : sSh k = some (0, c, 0)) {fs : List Value} (hf : M.2.2 k = .inr (c, fs)) {j : Nat} {v : Value} (hj : j < (sFk c).length) (hv : sFldOk k ((sFk c).getD j (9, 0, 0)) v) : sMem (zset M k (.inr (c, fs.set j v))) ∧ sUpd M (zset M k (.inr (c, fs.set j v))) 0 c j k 0 v := by
  obtain ⟨h0, h1, h2, h3⟩ := id h
  obtain ⟨fs1, f1, f2, f3⟩ := h1 k c hk
  rw [hf] at f1
  cases f1
  have hg : ∀ j', (fs.set j v).getD j' .null = if j' = j then v else fs.getD j' .null := by
    intro j'
    rw [List.getD_eq_getElem?_getD, List.getD_eq_getElem?_getD, List.getElem?_set]
    by_cases q : j = j'
    · rw [if_pos q, if_pos q.symm, if_pos (by omega)]
      rfl
    · rw [if_neg q, if_neg (fun w => q w.symm)]
  refine ⟨⟨h0, fun k' c' hk' => ?_, fun k' r o hk' => ?_, fun k' t o hk' => ?_⟩, ?_⟩
  · by_cases q : k' = k
    · subst q
      rw [hk] at hk'
      cases hk'
      refine ⟨fs.set j v, by rw [zset_at, if_pos rfl], by rw [List.length_set]; exact f2, fun j' hj' => ?_⟩
      rw [hg]
      by_cases q2 : j' = j
      · rw [if_pos q2, q2]
        exact hv
      · rw [if_neg q2]
        exact f3 j' hj'
    · obtain ⟨fs', g⟩ := h1 k' c' hk'
      exact ⟨fs', by rw [zset_at, if_neg q]; exact g⟩
  · obtain ⟨f, g⟩ := h2 k' r o hk'
    exact ⟨f, by rw [zset_at, if_neg (fun q => by rw [q, hk] at hk'; cases hk')]; exact g⟩
  · obtain ⟨f, g⟩ := h3 k' t o hk'
    exact ⟨f, by rw [zset_at, if_neg (fun q => by rw [q, hk] at hk'; cases hk')]; exact g⟩
  · refine ⟨fun k' c' j' hk' => ?_, fun r o i' hr => ?_⟩
    · by_cases q : k' = k
      · subst q
        rw [sgf_def (M := zset M k' (.inr (c, fs.set j v))) (c := c) (fs := fs.set j v) (by rw [zset_at, if_pos rfl]), hg, sgf_def hf]
        by_cases q2 : j' = j
        · rw [if_pos q2, if_pos ⟨rfl, q2⟩]
        · rw [if_neg q2, if_neg (fun w => q2 w.2)]
      · rw [sgf_set q, if_neg (fun w => q w.1)]
    · exact sgr_set fun q => by rw [q, hk] at hr; cases hr
theorem sMem_setR {M : zM} (h : sMem M) {k r o : Nat} (hk : sSh k = some (1, r, o)) {f : Nat → Int32} (hf : M.2.2 k = .inl (srty r, srln r, .inl f)) {i : Nat} {x : Int32} (hx : (setb r i).1 ≤ x.toInt ∧ x.toInt ≤ (setb r i).2) : sMem (zset M k (.inl (srty r, srln r, .inl (upd f i x)))) ∧ sUpd M (zset M k (.inl (srty r, srln r, .inl (upd f i x)))) 1 r 0 o i (.int x) := by
  obtain ⟨h0, h1, h2, h3⟩ := id h
  obtain ⟨f1, g1, g2⟩ := h2 k r o hk
  rw [hf] at g1
  cases g1
  refine ⟨⟨h0, fun k' c' hk' => ?_, fun k' r' o' hk' => ?_, fun k' t o' hk' => ?_⟩, ?_⟩
  · obtain ⟨fs, g⟩ := h1 k' c' hk'
    exact ⟨fs, by rw [zset_at, if_neg (fun q => by rw [q, hk] at hk'; cases hk')]; exact g⟩
  · by_cases q : k' = k
    · subst q
      rw [hk] at hk'
      cases hk'
      refine ⟨upd f i x, by rw [zset_at, if_pos rfl], fun i' hi' => ?_⟩
      unfold upd
      by_cases q2 : i' = i
      · rw [if_pos q2, q2]
        exact hx
      · rw [if_neg q2]
        exact g2 i' hi'
    · obtain ⟨f', g⟩ := h2 k' r' o' hk'
      exact ⟨f', by rw [zset_at, if_neg q]; exact g⟩
  · obtain ⟨f', g⟩ := h3 k' t o' hk'
    exact ⟨f', by rw [zset_at, if_neg (fun q => by rw [q, hk] at hk'; cases hk')]; exact g⟩
  · refine ⟨fun k' c' j' hk' => ?_, fun r' o' i' hr => ?_⟩
    · exact sgf_set fun q => by rw [q, hk] at hk'; cases hk'
    · by_cases q : o' + soff r' = k
      · rw [q, hk] at hr
        cases hr
        rw [sgr_def (M := zset M k (.inl (srty r, srln r, .inl (upd f i x)))) (t := srty r) (n := srln r) (f := upd f i x) (by rw [q, zset_at, if_pos rfl]), sgr_def (by rw [q]; exact hf)]
        unfold upd
        by_cases q2 : i' = i
        · rw [if_pos q2, if_pos ⟨rfl, rfl, q2⟩]
        · rw [if_neg q2, if_neg (fun w => q2 w.2.2)]
      · rw [sgr_set q, if_neg]
        rintro ⟨rfl, rfl, -⟩
        exact q (sSh_row hk).1.symm
/-- facts that a store leaves -/
def skeepF (K : sK) (c j : Nat) (o : sE) (g : sF) : Bool := !(Nat.beq g.1 0) || (!(Nat.beq g.2.1 c) || (!(Nat.beq g.2.2.1 j) || sDf K g.2.2.2.1 o))
def skeepR (K : sK) (r : Nat) (o i : sE) (g : sF) : Bool := Nat.beq g.1 0 || (!(Nat.beq g.2.1 r) || (sDf K g.2.2.2.2.1 i || sDf K g.2.2.2.1 o))
theorem sbeqf {a b : Nat} (h : (!(Nat.beq a b)) = true) : a ≠ b := fun q => by
  rw [q] at h
  have : Nat.beq b b = true := Nat.beq_refl b
  rw [this] at h
  cases h
theorem skeepF_ok {ρ : Nat → Int} {K : sK} (hK : skok ρ K) {M M' : zM} {c j k : Nat} {v : Value} {o : sE} {g : sF} (hk : sSh k = some (0, c, 0)) (ho : (k : Int) = se ρ o) (hu : sUpd M M' 0 c j k 0 v) (hg : sFac ρ M g) (hs : skeepF K c j o g = true) : sFac ρ M' g := by
  obtain ⟨d, c', j', o', i', t, q, e⟩ := g
  unfold sFac sFacE at hg ⊢
  dsimp only at hg ⊢
  obtain ⟨u1, u2⟩ := hu
  cases d with
  | succ d =>
    obtain ⟨k', i', h1, h2, h3, h4, h5⟩ := hg
    exact ⟨k', i', h1, h2, h3, h4, by rw [u2 _ _ _ h3]; exact h5⟩
  | zero =>
    obtain ⟨k', h1, h2, h3⟩ := hg
    have hn : ¬ (k' = k ∧ j' = j) := by
      rintro ⟨rfl, rfl⟩
      unfold skeepF at hs
      simp only [Bool.or_eq_true] at hs
      rcases hs with hs | hs | hs | hs
      · cases hs
      · have := sbeqf hs
        rw [hk] at h2
        cases h2
        exact this rfl
      · exact sbeqf hs rfl
      · have := sDf_ok hK hs
        exact this (h1.symm.trans ho)
    refine ⟨k', h1, h2, ?_⟩
    rw [u1 k' c' j' h2, if_neg hn]
    exact h3
theorem skeepR_ok {ρ : Nat → Int} {K : sK} (hK : skok ρ K) {M M' : zM} {r k i : Nat} {v : Value} {o ie : sE} {g : sF} (ho : (k : Int) = se ρ o) (hi : (i : Int) = se ρ ie) (hu : sUpd M M' 1 r 0 k i v) (hg : sFac ρ M g) (hs : skeepR K r o ie g = true) : sFac ρ M' g := by
  obtain ⟨d, c', j', o', i', t, q, e⟩ := g
  unfold sFac sFacE at hg ⊢
  dsimp only at hg ⊢
  obtain ⟨u1, u2⟩ := hu
  cases d with
  | zero =>
    obtain ⟨k', h1, h2, h3⟩ := hg
    exact ⟨k', h1, h2, by rw [u1 _ c' _ h2]; exact h3⟩
  | succ d =>
    obtain ⟨k', n', h1, h2, h3, h4, h5⟩ := hg
    have hn : ¬ (c' = r ∧ k' = k ∧ n' = i) := by
      rintro ⟨rfl, rfl, rfl⟩
      unfold skeepR at hs
      simp only [Bool.or_eq_true] at hs
      rcases hs with hs | hs | hs | hs
      · cases hs
      · exact sbeqf hs rfl
      · exact sDf_ok hK hs (h2.symm.trans hi)
      · exact sDf_ok hK hs (h1.symm.trans ho)
    refine ⟨k', n', h1, h2, h3, h4, ?_⟩
    rw [u2 _ _ _ h3, if_neg hn]
    exact h5
