/-! THE START, 4 -/
section ZR
variable {F : Int → Int}
theorem z_dC (h : ∀ i, F i = 0) (b : Int) : dC F b := by
  unfold dC
  rw [h, h, h, h]
  refine ⟨⟨⟨by omega, by omega, by omega, by omega, by omega, by omega, by omega, by omega, by omega⟩, fun i i0 i1 _ => h _, fun i i0 i1 => by omega, fun i i0 i1 => by omega, fun i i0 i1 => by omega, fun i j i0 ij j1 => by omega, fun i i0 i1 => by omega, fun k k0 k1 => by omega, fun k k0 k1 => by omega, fun k k0 k1 => by omega, fun _ => rfl, fun c => by omega⟩, fun c => by omega⟩
theorem z_rQ {R : Nat → Int → Int} {G : Nat → Int} (h : ∀ i, R 58 i = 0) (hg : G 27 = 0) : ∀ n ∈ rQN, rQ n [] R G := by
  have a1 : rQ 1 [] R G := rqi_1_0 fun q E _ _ => Or.inl (by rw [h]; exact Int.le_refl _)
  have a2 : rQ 2 [] R G := rqi_2_0 fun q E _ _ => Or.inl (by rw [h]; exact Int.le_refl _)
  have a3 : rQ 3 [] R G := rqi_3_0 fun q E _ _ => Or.inl (by rw [h]; exact Int.le_refl _)
  have a4 : rQ 4 [] R G := rqi_4_0 fun q E _ _ => Or.inl (by rw [h]; decide)
  have a5 : rQ 5 [] R G := rqi_5_0 fun q E _ _ => Or.inl (by rw [h]; exact Int.le_refl _)
  have a6 : rQ 6 [] R G := rqi_6_0 fun q _ _ _ => Or.inl (by rw [h]; exact Int.le_refl _)
  have a7 : rQ 7 [] R G := rqi_7_0 fun q E _ _ => Or.inl (by rw [h]; exact Int.le_refl _)
  have a8 : rQ 8 [] R G := rqi_8_0 fun q E _ _ => Or.inl (by rw [h]; exact Int.le_refl _)
  have a10 : rQ 10 [] R G := rqi_10_0 fun q _ _ _ => z_dC h _
  have a23 : rQ 23 [] R G := rqi_23_0 ⟨by rw [hg]; decide, Or.inl (by rw [hg]; exact Int.le_refl _)⟩
  have a24 : rQ 24 [] R G := rqi_24_0 (Or.inl (by rw [hg]; exact Int.le_refl _))
  exact List.forall_mem_cons.mpr ⟨a1, List.forall_mem_cons.mpr ⟨a2, List.forall_mem_cons.mpr ⟨a3, List.forall_mem_cons.mpr ⟨a4, List.forall_mem_cons.mpr ⟨a5, List.forall_mem_cons.mpr ⟨a6, List.forall_mem_cons.mpr ⟨a7, List.forall_mem_cons.mpr ⟨a8, List.forall_mem_cons.mpr ⟨a10, List.forall_mem_cons.mpr ⟨a23, List.forall_mem_cons.mpr ⟨a24, List.forall_mem_nil _⟩⟩⟩⟩⟩⟩⟩⟩⟩⟩⟩
end ZR
theorem fac58z {M : zM} (h : ∀ i, hR M 58 i = 0) {i : Nat} (hi : i < 5) : sFacE 474 (lCell i) 0 M 1 58 0 0 0 := by
  have l0 : (0 : Int) ≤ lCell i ∧ lCell i < srln 58 := by
    unfold lCell
    have : (srln 58 : Int) = 238220 := rfl
    omega
  have e4 := hR_in (M := M) l0.1 l0.2
  rw [h] at e4
  exact ⟨474, (lCell i).toNat, rfl, Int.toNat_of_nonneg l0.1, by decide, by omega, sgr M 58 474 (lCell i).toNat, rfl, e4.symm⟩
theorem lInv_start {z : Nat} {Ma Mb : zM} (h486 : Mb.1 = 486) (hM : sMem Mb) (hi : bIni Mb = true) (hp : ∀ n ∈ cQL, cQs n [] Mb) (hr : bRz Mb = true) : lInv Mb := by
  unfold bIni at hi
  simp only [Bool.and_eq_true] at hi
  obtain ⟨i1, i2, i3, i4, i5, i6⟩ := hi
  have hz : ∀ i, hR Mb 58 i = 0 := fun i => by
    by_cases c : 0 ≤ i ∧ i < srln 58
    · rw [hR_in c.1 c.2]
      have e : (srln 58 : Int) = 238220 := rfl
      exact bRz_ok hr i.toNat (by omega)
    · exact hR_out (by omega)
  have hg : hG Mb 27 = 0 := (bF0_ok i4).2
  refine ⟨0, 0, 0, 0, 0, 0, 0, ⟨hM, fun q hq => hp q hq, ⟨0, rfl, by decide, (bF0_ok i1).1⟩, ⟨0, rfl, by decide, (bF0_ok i2).1⟩, ⟨0, 0, rfl, rfl, by decide, by decide, _, rfl, bz_ok i5⟩, ⟨0, 1, rfl, rfl, by decide, by decide, _, rfl, bz_ok i6⟩⟩, ⟨hM, fun q hq => z_rQ hz hg q hq, ⟨474, rfl, sSh_474, (bF0_ok i3).1⟩, fun i hi => ?_⟩, ?_, ?_⟩
  · have := fac58z hz hi
    rcases (show i = 0 ∨ i = 1 ∨ i = 2 ∨ i = 3 ∨ i = 4 by omega) with e | e | e | e | e <;> rw [e] at this ⊢ <;> exact this
  · unfold bI
    omega
  · unfold uR
    omega
theorem law_start {X : zX} {z : Nat} (hz : X.2.2 = z) (h01 : z = 0 ∨ z = 1) : ∃ Ma Mb, Ma.1 = 474 ∧ (∀ N, 1000 ≤ N → zlc X N 253 [.ref 0] zM1 = some (none, Ma)) ∧ (∀ N, 1000 ≤ N → zlc X N 455 [.ref 474] (zpush Ma (.inr (12, zdef 12 35))) = some (none, Mb)) ∧ lInv Mb ∧ Mb.2.1 ≤ 7000000 := by
  have key : ∀ z : Nat, X.2.2 = z → zchk (zk1 z) (zev 10 (zX0 z) zmt zovT 14 1000 253 [.ref 0] zM1) = true → bTwo (bSpan 0 100) z = true → bTwo (bSpan 100 192) z = true → bTwo (bSpan 292 183) z = true → bTwo (bSpan 475 1) z = true → bTwo (bSpan 476 10) z = true → bTwo bIni z = true → bTwo (fun M => pPre 1 M && (pPre 3 M && (pPre 4 M && (pPre 7 M && (pPre 9 M && pPre 10 M))))) z = true → bTwo (pPre 2) z = true → bTwo (pPre 6) z = true → bTwo pB5 z = true → bTwo bRz z = true → ∃ Ma Mb, Ma.1 = 474 ∧ (∀ N, 1000 ≤ N → zlc X N 253 [.ref 0] zM1 = some (none, Ma)) ∧ (∀ N, 1000 ≤ N → zlc X N 455 [.ref 474] (zpush Ma (.inr (12, zdef 12 35))) = some (none, Mb)) ∧ lInv Mb ∧ Mb.2.1 ≤ 7000000 := by
    intro z hz h s1 s2 s3 s4 s5 s6 s7 s8 s8b s9 s10
    have hz' : X.2.2 = 0 ↔ z = 0 := by rw [hz]
    obtain ⟨Ma, e1, e2⟩ : ∃ M, zev 10 (zX0 z) zmt zovT 14 1000 253 [.ref 0] zM1 = some (none, M) ∧ zk1 z M = true := by
      unfold zchk at h
      split at h
      · rename_i M hM
        exact ⟨M, hM, h⟩
      · cases h
    unfold zk1 at e2
    rw [Bool.and_eq_true] at e2
    obtain ⟨e2, e3⟩ := e2
    obtain ⟨Mb, e4, e5⟩ : ∃ M, zev 10 (zX0 z) zmt zovT 14 1000 455 [.ref 474] (zpush Ma (.inr (12, zdef 12 35))) = some (none, M) ∧ zk2 M = true := by
      unfold zchk at e3
      split at e3
      · rename_i M hM
        exact ⟨M, hM, e3⟩
      · cases e3
    unfold zk2 at e5
    rw [Bool.and_eq_true, Bool.and_eq_true] at e5
    have h486 := Nat.eq_of_beq_eq_true e5.1.1
    have t1 := bTwo_ok s1 e1 e4
    have t2 := bTwo_ok s2 e1 e4
    have t3 := bTwo_ok s3 e1 e4
    have t4 := bTwo_ok s4 e1 e4
    have t5 := bTwo_ok s5 e1 e4
    have sp : ∀ {a n : Nat}, bSpan a n Mb = true → ∀ k, a ≤ k → k < a + n → bObj Mb k = true := fun {a n} hs k k0 k1 => by
      have := List.all_eq_true.mp hs (k - a) (List.mem_range.mpr (by omega))
      rw [show a + (k - a) = k by omega] at this
      exact this
    have hM : sMem Mb := bMem_ok h486 fun k hk => by
      rcases (show k < 100 ∨ (100 ≤ k ∧ k < 292) ∨ (292 ≤ k ∧ k < 475) ∨ k = 475 ∨ (476 ≤ k ∧ k < 486) by omega) with c | c | c | c | c
      · exact sp t1 k (by omega) (by omega)
      · exact sp t2 k (by omega) (by omega)
      · exact sp t3 k (by omega) (by omega)
      · exact sp t4 k (by omega) (by omega)
      · exact sp t5 k (by omega) (by omega)
    have t7 := bTwo_ok s7 e1 e4
    have p2 := bTwo_ok s8 e1 e4
    have p6 := bTwo_ok s8b e1 e4
    have t9 := bTwo_ok s9 e1 e4
    simp only [Bool.and_eq_true] at t7
    obtain ⟨p1, p3, p4, p7, p9, p10⟩ := t7
    refine ⟨Ma, Mb, Nat.eq_of_beq_eq_true e2, fun N hN => zev_sub _ _ _ _ _ _ (zev_X hz' _ _ _ _ _ _ e1) _ _ (by decide) hN, fun N hN => zev_sub _ _ _ _ _ _ (zev_X hz' _ _ _ _ _ _ e4) _ _ (by decide) hN, lInv_start (z := z) (Ma := Ma) h486 hM (bTwo_ok s6 e1 e4) ?_ (bTwo_ok s10 e1 e4), Nat.le_of_ble_eq_true e5.1.2⟩
    exact List.forall_mem_cons.mpr ⟨pPre_ok p1, List.forall_mem_cons.mpr ⟨pPre_ok p2, List.forall_mem_cons.mpr ⟨pPre_ok p3, List.forall_mem_cons.mpr ⟨pPre_ok p4, List.forall_mem_cons.mpr ⟨pB5_ok t9, List.forall_mem_cons.mpr ⟨pPre_ok p6, List.forall_mem_cons.mpr ⟨pPre_ok p7, List.forall_mem_cons.mpr ⟨pPre_ok p9, List.forall_mem_cons.mpr ⟨pPre_ok p10, List.forall_mem_nil _⟩⟩⟩⟩⟩⟩⟩⟩⟩
  rcases h01 with rfl | rfl
  · exact key 0 hz ctors_0 bm_0_0 bm_100_0 bm_292_0 bm_475_0 bm_476_0 bi_0 bp_0 bq2_0 bq6_0 b5_0 br_0
  · exact key 1 hz ctors_1 bm_0_1 bm_100_1 bm_292_1 bm_475_1 bm_476_1 bi_1 bp_1 bq2_1 bq6_1 b5_1 br_1
theorem law_run {X : zX} {z : Nat} (hL : X.1 ≤ 2560) (hz : X.2.2 = z) (h01 : z = 0 ∨ z = 1) : ∃ N n M', 1000 ≤ N ∧ zrun X zmt (zlc X N) zlaw n 0 [(0, .ref 1000016)] [] zM0 = some (some (.int 1), M') ∧ M'.1 = 486 ∧ M'.2.1 ≤ 7000000 := by
  obtain ⟨Ma, Mb, h1, h2, h3, h4, h5⟩ := law_start hz h01
  obtain ⟨M', N0, h6, h7, h8⟩ := law_loop hL 512 0 Mb (by omega) (by omega) h4
  refine ⟨N0 + 1000, _, M', by omega, law_begin h1 (h2 _ (by omega)) (h3 _ (by omega)) (h8 _ (by omega)), h6, by omega⟩
