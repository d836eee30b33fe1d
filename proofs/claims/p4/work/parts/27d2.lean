/-! THE LAW'S LOOP over contracts -/
def zlc (X : zX) (N : Nat) : zCall := zev 10 X zmt zovT 400 N
theorem zob_of {M : zM} {k c : Nat} (h : sMem M) (hk : sSh k = some (0, c, 0)) : ∃ fs, zob M k = some (.inr (c, fs)) := by
  obtain ⟨fs, h1, -⟩ := h.2.1 k c hk
  have hl := sSh_lt hk
  refine ⟨fs, ?_⟩
  unfold zob
  rw [if_pos (by rw [h.1]; exact hl), h1]
theorem lCall_gr {X : zX} {a : Nat} {args : List Value} {M M' : zM} {x : Int32} (h : lCallOK X a args M x M') (h1 : M.1 = 486) (h2 : M'.1 = 486) : M'.2.1 = M.2.1 := by
  obtain ⟨N, h⟩ := h
  exact (zgr_ev zgr_ov _ _ _ _ _ _ _ (h N (Nat.le_refl _))).2 (h2.trans h1.symm)
/-- what holds ahead of each round of the law -/
def lInv (M : zM) : Prop := ∃ t n k0 k1 u0 u1 u2 : Int, cI t n k0 k1 M ∧ rI t [u0, u1, u2, k0, k1] M ∧ bI t n k0 k1 ∧ uR n u0 u1 u2
theorem spO_b {t n k0 k1 r t2 n2 k02 k12 : Int} (hb : bI t n k0 k1) (h : spO t n k0 k1 r t2 n2 k02 k12) : bI t2 n2 k02 k12 := by
  unfold bI spO at *
  omega
theorem spE_b {t n k0 k1 r t2 n2 k02 k12 : Int} (hb : bI t n k0 k1) (h : spE t n k0 k1 r t2 n2 k02 k12) : bI t2 n2 k02 k12 := by
  unfold bI spE at *
  omega
theorem spW_b {t n k0 k1 r t2 n2 k02 k12 : Int} (hb : bI t n k0 k1) (h : spW t n k0 k1 r t2 n2 k02 k12) : bI t2 n2 k02 k12 := by
  unfold bI spW at *
  omega
theorem spT_b {x t n k0 k1 r t2 n2 k02 k12 : Int} (hb : bI t n k0 k1) (h : spT x t n k0 k1 r t2 n2 k02 k12) : bI t2 n2 k02 k12 := by
  unfold bI spT at *
  rcases (show (x ≤ 0 ∨ 9 ≤ x) ∨ (1 ≤ x ∧ x ≤ 8 ∧ 1025 ≤ t + x) ∨ (1 ≤ x ∧ x ≤ 8 ∧ t + x ≤ 1024) by omega) with c | c | c
  · have := h.1 c
    omega
  · have := h.2.1 c
    omega
  · have := h.2.2.1 c
    omega
theorem spS_b {x y t n k0 k1 r t2 n2 k02 k12 : Int} (hb : bI t n k0 k1) (h : spS x y t n k0 k1 r t2 n2 k02 k12) : bI t2 n2 k02 k12 := by
  unfold bI spS at *
  rcases (show (x ≤ 1 ∨ 5 ≤ x ∨ y ≤ -1 ∨ 8 ≤ y) ∨ (2 ≤ x ∧ x ≤ 4 ∧ 0 ≤ y ∧ y ≤ 7 ∧ n = 3) ∨ (2 ≤ x ∧ x ≤ 4 ∧ 0 ≤ y ∧ y ≤ 7 ∧ n ≤ 2) by omega) with c | c | c
  · have := h.1 c
    omega
  · have := h.2.1 c
    omega
  · have := h.2.2.1 c
    omega
theorem spP_b {x y z t n k0 k1 r t2 n2 k02 k12 : Int} (hb : bI t n k0 k1) (h : spP x y z t n k0 k1 r t2 n2 k02 k12) : bI t2 n2 k02 k12 := by
  unfold bI spP at *
  rcases (show (x ≤ -1 ∨ n ≤ x ∨ y ≤ -1 ∨ 8 ≤ y ∨ z ≤ -1 ∨ 513 ≤ z + t) ∨ (0 ≤ x ∧ x < n ∧ 0 ≤ y ∧ y ≤ 7 ∧ 0 ≤ z ∧ z + t ≤ 512) by omega) with c | c
  · have := h.1 c
    omega
  · have := h.2.1 c
    omega
theorem spK_b {x y t n k0 k1 r t2 n2 k02 k12 : Int} (hb : bI t n k0 k1) (h : spK x y t n k0 k1 r t2 n2 k02 k12) : bI t2 n2 k02 k12 := by
  unfold bI spK at *
  rcases (show (x ≤ -1 ∨ n ≤ x ∨ y ≤ -1 ∨ 2 ≤ y) ∨ (0 ≤ x ∧ x < n ∧ y = 0) ∨ (0 ≤ x ∧ x < n ∧ y = 1) by omega) with c | c | c
  · have := h.1 c
    omega
  · have := h.2.1 c
    omega
  · have := h.2.2.1 c
    omega
theorem spA_b {x y t n k0 k1 r t2 n2 k02 k12 : Int} (hb : bI t n k0 k1) (h : spA x y t n k0 k1 r t2 n2 k02 k12) : bI t2 n2 k02 k12 := by
  unfold bI spA at *
  rcases (show (x ≤ -1 ∨ n + 1 ≤ x ∨ y ≤ -1 ∨ 2 ≤ y) ∨ (0 ≤ x ∧ x ≤ n ∧ ((y = 0 ∧ k0 = 0) ∨ (y = 1 ∧ k1 = 0))) ∨ (0 ≤ x ∧ x ≤ n ∧ ((y = 0 ∧ k0 = 1) ∨ (y = 1 ∧ k1 = 1)) ∧ x = 3) ∨ (0 ≤ x ∧ x < n ∧ ((y = 0 ∧ k0 = 1) ∨ (y = 1 ∧ k1 = 1)) ∧ x ≤ 2) ∨ (0 ≤ x ∧ x = n ∧ ((y = 0 ∧ k0 = 1) ∨ (y = 1 ∧ k1 = 1)) ∧ x ≤ 2) by omega) with c | c | c | c | c
  · have := h.1 c
    omega
  · have := h.2.1 c
    omega
  · have := h.2.2.1 c
    omega
  · have := h.2.2.2.1 c
    omega
  · have := h.2.2.2.2.1 c
    omega
/-- both do the same -/
theorem spO_d {t n k0 k1 r r' t2 n2 k02 k12 s2 m2 l0 l1 : Int} (h : spO t n k0 k1 r t2 n2 k02 k12) (h' : spO t n k0 k1 r' s2 m2 l0 l1) : s2 = t2 ∧ m2 = n2 ∧ l0 = k02 ∧ l1 = k12 := by
  unfold spO at *
  omega
theorem spE_d {t n k0 k1 r r' t2 n2 k02 k12 s2 m2 l0 l1 : Int} (h : spE t n k0 k1 r t2 n2 k02 k12) (h' : spE t n k0 k1 r' s2 m2 l0 l1) : s2 = t2 ∧ m2 = n2 ∧ l0 = k02 ∧ l1 = k12 := by
  unfold spE at *
  omega
theorem spW_d {t n k0 k1 r r' t2 n2 k02 k12 s2 m2 l0 l1 : Int} (h : spW t n k0 k1 r t2 n2 k02 k12) (h' : spW t n k0 k1 r' s2 m2 l0 l1) : s2 = t2 ∧ m2 = n2 ∧ l0 = k02 ∧ l1 = k12 ∧ r' = r := by
  unfold spW at *
  omega
theorem spT_d {x t n k0 k1 r r' t2 n2 k02 k12 s2 m2 l0 l1 : Int} (h : spT x t n k0 k1 r t2 n2 k02 k12) (h' : spT x t n k0 k1 r' s2 m2 l0 l1) : s2 = t2 ∧ m2 = n2 ∧ l0 = k02 ∧ l1 = k12 ∧ r' = r := by
  unfold spT at *
  rcases (show (x ≤ 0 ∨ 9 ≤ x) ∨ (1 ≤ x ∧ x ≤ 8 ∧ 1025 ≤ t + x) ∨ (1 ≤ x ∧ x ≤ 8 ∧ t + x ≤ 1024) by omega) with c | c | c
  · have := h.1 c
    have := h'.1 c
    omega
  · have := h.2.1 c
    have := h'.2.1 c
    omega
  · have := h.2.2.1 c
    have := h'.2.2.1 c
    omega
theorem spS_d {x y t n k0 k1 r r' t2 n2 k02 k12 s2 m2 l0 l1 : Int} (hb : bI t n k0 k1) (h : spS x y t n k0 k1 r t2 n2 k02 k12) (h' : spS x y t n k0 k1 r' s2 m2 l0 l1) : s2 = t2 ∧ m2 = n2 ∧ l0 = k02 ∧ l1 = k12 ∧ r' = r := by
  unfold bI spS at *
  rcases (show (x ≤ 1 ∨ 5 ≤ x ∨ y ≤ -1 ∨ 8 ≤ y) ∨ (2 ≤ x ∧ x ≤ 4 ∧ 0 ≤ y ∧ y ≤ 7 ∧ n = 3) ∨ (2 ≤ x ∧ x ≤ 4 ∧ 0 ≤ y ∧ y ≤ 7 ∧ n ≤ 2) by omega) with c | c | c
  · have := h.1 c
    have := h'.1 c
    omega
  · have := h.2.1 c
    have := h'.2.1 c
    omega
  · have := h.2.2.1 c
    have := h'.2.2.1 c
    omega
theorem spP_d {x y z t n k0 k1 r r' t2 n2 k02 k12 s2 m2 l0 l1 : Int} (h : spP x y z t n k0 k1 r t2 n2 k02 k12) (h' : spP x y z t n k0 k1 r' s2 m2 l0 l1) : s2 = t2 ∧ m2 = n2 ∧ l0 = k02 ∧ l1 = k12 ∧ r' = r := by
  unfold spP at *
  rcases (show (x ≤ -1 ∨ n ≤ x ∨ y ≤ -1 ∨ 8 ≤ y ∨ z ≤ -1 ∨ 513 ≤ z + t) ∨ (0 ≤ x ∧ x < n ∧ 0 ≤ y ∧ y ≤ 7 ∧ 0 ≤ z ∧ z + t ≤ 512) by omega) with c | c
  · have := h.1 c
    have := h'.1 c
    omega
  · have := h.2.1 c
    have := h'.2.1 c
    omega
theorem spK_d {x y t n k0 k1 r r' t2 n2 k02 k12 s2 m2 l0 l1 : Int} (h : spK x y t n k0 k1 r t2 n2 k02 k12) (h' : spK x y t n k0 k1 r' s2 m2 l0 l1) : s2 = t2 ∧ m2 = n2 ∧ l0 = k02 ∧ l1 = k12 ∧ r' = r := by
  unfold spK at *
  rcases (show (x ≤ -1 ∨ n ≤ x ∨ y ≤ -1 ∨ 2 ≤ y) ∨ (0 ≤ x ∧ x < n ∧ y = 0) ∨ (0 ≤ x ∧ x < n ∧ y = 1) by omega) with c | c | c
  · have := h.1 c
    have := h'.1 c
    omega
  · have := h.2.1 c
    have := h'.2.1 c
    omega
  · have := h.2.2.1 c
    have := h'.2.2.1 c
    omega
theorem spA_d {x y t n k0 k1 r r' t2 n2 k02 k12 s2 m2 l0 l1 : Int} (hb : bI t n k0 k1) (h : spA x y t n k0 k1 r t2 n2 k02 k12) (h' : spA x y t n k0 k1 r' s2 m2 l0 l1) : s2 = t2 ∧ m2 = n2 ∧ l0 = k02 ∧ l1 = k12 ∧ r' = r := by
  unfold bI spA at *
  rcases (show (x ≤ -1 ∨ n + 1 ≤ x ∨ y ≤ -1 ∨ 2 ≤ y) ∨ (0 ≤ x ∧ x ≤ n ∧ ((y = 0 ∧ k0 = 0) ∨ (y = 1 ∧ k1 = 0))) ∨ (0 ≤ x ∧ x ≤ n ∧ ((y = 0 ∧ k0 = 1) ∨ (y = 1 ∧ k1 = 1)) ∧ x = 3) ∨ (0 ≤ x ∧ x < n ∧ ((y = 0 ∧ k0 = 1) ∨ (y = 1 ∧ k1 = 1)) ∧ x ≤ 2) ∨ (0 ≤ x ∧ x = n ∧ ((y = 0 ∧ k0 = 1) ∨ (y = 1 ∧ k1 = 1)) ∧ x ≤ 2) by omega) with c | c | c | c | c
  · have := h.1 c
    have := h'.1 c
    omega
  · have := h.2.1 c
    have := h'.2.1 c
    omega
  · have := h.2.2.1 c
    have := h'.2.2.1 c
    omega
  · have := h.2.2.2.1 c
    have := h'.2.2.2.1 c
    omega
  · have := h.2.2.2.2.1 c
    have := h'.2.2.2.2.1 c
    omega
/-- one round: out of what both programs do -/
def lRnd (X : zX) (i : Nat) (M : zM) : Prop := ∃ (M' : zM) (N0 : Nat), lInv M' ∧ M'.1 = 486 ∧ M'.2.1 = M.2.1 ∧ ∀ N, N0 ≤ N → ∀ (n : Nat) (res : Option (Option Value × zM)), zrun X zmt (zlc X N) zlaw n 18 (zls (nI (i + 5))) [] M' = res → res.isSome = true → zrun X zmt (zlc X N) zlaw (n + 80) 18 (zls (nI i)) [] M = res
theorem lfuel {X : zX} {call : zCall} {n m pc : Nat} {ls : zL} {st : List Value} {M : zM} {res : Option (Option Value × zM)} (h : zrun X zmt call zlaw n pc ls st M = res) (hs : res.isSome = true) (hm : n ≤ m) : zrun X zmt call zlaw m pc ls st M = res := by
  cases res with
  | none => cases hs
  | some q => exact zrun_fuel n pc ls st M q h m hm
