/-! THE REFERENCE'S PREDICATES, 10: the chip is made -/
section CW
variable {F : Int → Int} {b k : Int}
theorem chW_r : 0 ≤ chW F b k ∧ chW F b k ≤ 2 := by
  unfold chW
  repeat' split
  all_goals omega
theorem chW_lit (h : iK F b k = 1) : chW F b k = 2 := by
  unfold chW
  rw [if_neg (by omega), if_pos h]
theorem chW_one (h : (2 ≤ iK F b k ∧ iK F b k ≤ 9) ∨ (11 ≤ iK F b k ∧ iK F b k ≤ 13)) : chW F b k = 1 := by
  unfold chW
  rw [if_neg (by omega), if_neg (by omega), if_pos (by omega)]
theorem chW_prim (h : iK F b k = 0) (hd : dK F b (iN F b k) = 0) (hn : iN F b k < 70 ∨ (74 < iN F b k ∧ iN F b k < 83) ∨ (147 ≤ iN F b k ∧ iN F b k ≤ 150)) : chW F b k = 1 := by
  unfold chW
  rw [if_neg (by omega), if_neg (by omega), if_neg (by omega), if_pos hd, if_pos hn]
theorem chW_call (h : iK F b k = 0) (hd : dK F b (iN F b k) = 1) : chW F b k = 1 := by
  unfold chW
  rw [if_neg (by omega), if_neg (by omega), if_neg (by omega), if_neg (by omega), if_pos hd]
theorem chW_con (h : iK F b k = 0) (hd : dK F b (iN F b k) = 2 ∨ dK F b (iN F b k) = 7) : chW F b k = 2 := by
  unfold chW
  rw [if_neg (by omega), if_neg (by omega), if_neg (by omega), if_neg (by omega), if_neg (by omega), if_pos hd]
theorem chW_does (h : iK F b k = 0) (hd : dK F b (iN F b k) = 3) (he : dE F b (iN F b k) = -1) : chW F b k = 2 := by
  unfold chW
  rw [if_neg (by omega), if_neg (by omega), if_neg (by omega), if_neg (by omega), if_neg (by omega), if_neg (by omega), if_pos ⟨hd, he⟩]
/-- what has words -/
theorem chW_pos (h : 1 ≤ chW F b k) : iK F b k ≠ 10 ∧ iK F b k ≤ 13 ∧ (iK F b k = 0 → (dK F b (iN F b k) = 0 ∧ (iN F b k < 70 ∨ (74 < iN F b k ∧ iN F b k < 83) ∨ (147 ≤ iN F b k ∧ iN F b k ≤ 150))) ∨ dK F b (iN F b k) = 1 ∨ (chW F b k = 2 ∧ (dK F b (iN F b k) = 2 ∨ dK F b (iN F b k) = 7 ∨ (dK F b (iN F b k) = 3 ∧ dE F b (iN F b k) = -1)))) := by
  unfold chW at *
  by_cases c0 : iK F b k = 10 ∨ 14 ≤ iK F b k
  · rw [if_pos c0] at h
    omega
  · rw [if_neg c0] at h ⊢
    refine ⟨by omega, by omega, fun h0 => ?_⟩
    rw [if_neg (by omega), if_neg (by omega)] at h ⊢
    by_cases c1 : dK F b (iN F b k) = 0
    · rw [if_pos c1] at h
      by_cases c2 : iN F b k < 70 ∨ (74 < iN F b k ∧ iN F b k < 83) ∨ (147 ≤ iN F b k ∧ iN F b k ≤ 150)
      · exact Or.inl ⟨c1, c2⟩
      · rw [if_neg c2] at h
        omega
    · rw [if_neg c1] at h ⊢
      by_cases c2 : dK F b (iN F b k) = 1
      · exact Or.inr (Or.inl c2)
      · rw [if_neg c2] at h ⊢
        by_cases c3 : dK F b (iN F b k) = 2 ∨ dK F b (iN F b k) = 7
        · rw [if_pos c3]
          refine Or.inr (Or.inr ⟨rfl, ?_⟩)
          rcases c3 with c3 | c3
          · exact Or.inl c3
          · exact Or.inr (Or.inl c3)
        · rw [if_neg c3] at h ⊢
          by_cases c4 : dK F b (iN F b k) = 3 ∧ dE F b (iN F b k) = -1
          · rw [if_pos c4]
            exact Or.inr (Or.inr ⟨rfl, Or.inr (Or.inr c4)⟩)
          · rw [if_neg c4] at h
            omega
theorem chS_s (V : Int) (n : Nat) : chS F b V (n + 1) = chS F b V n + chW F b (V + n) := rfl
theorem chS_0 (V : Int) (n : Nat) : 0 ≤ chS F b V n ∧ chS F b V n ≤ 2 * n := by
  induction n with
  | zero => exact ⟨Int.le_refl _, Int.le_refl _⟩
  | succ n ih =>
    have t := chW_r (F := F) (b := b) (k := V + n)
    rw [chS_s]
    omega
theorem chS_le (V : Int) {m n : Nat} (h : m ≤ n) : chS F b V m ≤ chS F b V n := by
  induction n with
  | zero =>
    rw [show m = 0 by omega]
    exact Int.le_refl _
  | succ n ih =>
    rcases (show m ≤ n ∨ m = n + 1 by omega) with c | c
    · have t := chW_r (F := F) (b := b) (k := V + n)
      have u := ih c
      rw [chS_s]
      omega
    · rw [c]
      exact Int.le_refl _
theorem ptot_s (P : Int → Int) (n : Nat) : ptot F P b (n + 1) = ptot F P b n + chS F b (dV F b (P n)) (dL F b (P n)).toNat := rfl
theorem ptot_0 (P : Int → Int) (n : Nat) : 0 ≤ ptot F P b n := by
  induction n with
  | zero => exact Int.le_refl _
  | succ n ih =>
    have t := chS_0 (F := F) (b := b) (dV F b (P n)) (dL F b (P n)).toNat
    rw [ptot_s]
    omega
theorem ptot_le (P : Int → Int) {m n : Nat} (h : m ≤ n) : ptot F P b m ≤ ptot F P b n := by
  induction n with
  | zero =>
    rw [show m = 0 by omega]
    exact Int.le_refl _
  | succ n ih =>
    rcases (show m ≤ n ∨ m = n + 1 by omega) with c | c
    · have t := chS_0 (F := F) (b := b) (dV F b (P n)) (dL F b (P n)).toNat
      have u := ih c
      rw [ptot_s]
      omega
    · rw [c]
      exact Int.le_refl _
theorem ptot_fr {P P' : Int → Int} {n : Nat} (h : ∀ p : Nat, p < n → P' p = P p) : ptot F P' b n = ptot F P b n := by
  induction n with
  | zero => rfl
  | succ n ih =>
    rw [ptot_s, ptot_s, h n (by omega), ih fun p hp => h p (by omega)]
end CW
section CD
variable {F : Int → Int} {b i : Int}
theorem q75_D (h : q75 b i F) : ∃ many ic under pc, dD F b many ic under pc (-1) (-1) ∧ 0 ≤ i ∧ i < many ∧ dK F b i = 1 ∧ dI F b i = 0 ∧ dJ F b i = 0 ∧ ¬ (1 ≤ under ∧ i = fT F b 0) := by
  obtain ⟨⟨z, ⟨hD, hh⟩, h0, h1, h2, h3⟩, hi, hj⟩ := h
  exact ⟨_, _, _, _, hD, h0, h1, h2, hi, hj, fun w => h3 w.1 w.2⟩
theorem q75_end (h : q75 b i F) : dEnd F b i ∧ 0 ≤ dV F b i ∧ dV F b i + dL F b i ≤ 4000 ∧ 0 ≤ i ∧ i < 360 := by
  obtain ⟨many, ic, under, pc, hD, h0, h1, h2, hi, hj, hn⟩ := q75_D h
  have t := lw hD h0 h1 h2
  obtain ⟨⟨a1, a2, a3, a4, a5, -⟩, ka, kb, kw, k6, or, en, -⟩ := hD
  exact ⟨en i h0 h1 h2 hi hj hn, t.1, by omega, h0, by omega⟩
/-- numbers of its items -/
theorem q75_it (h : q75 b i F) {k : Int} (h0 : dV F b i ≤ k) (h1 : k < dV F b i + dL F b i) : (iK F b k = 0 → 0 ≤ iN F b k ∧ iN F b k ≤ 359) ∧ (ild (iK F b k) → dV F b i ≤ iN F b k ∧ iN F b k < dV F b i + dL F b i) ∧ (iK F b k = 4 ∨ (11 ≤ iK F b k ∧ iK F b k ≤ 13) → 0 ≤ iN F b k ∧ iN F b k ≤ 1048576) := by
  have e := q75_end h
  obtain ⟨many, ic, under, pc, hD, i0, i1, i2, hi, hj, hn⟩ := q75_D h
  have t := lw hD i0 i1 i2
  have hD2 := hD
  obtain ⟨⟨a1, a2, a3, a4, a5, -⟩, -⟩ := hD2
  refine ⟨fun c => ?_, fun c => e.1.2.2.2 k h0 h1 c, fun c => li11 hD (by omega) (by omega) c⟩
  have := li0 hD (k := k) (by omega) (by omega) c
  omega
/-- below 172: no word of its own -/
theorem q75_172 (h : q75 b i F) {j : Int} (h0 : 0 ≤ j) (h1 : j < 172) : dK F b j = 0 := by
  obtain ⟨many, ic, under, pc, ⟨⟨a1, a2, a3, -⟩, ka, -⟩, i0, i1, -⟩ := q75_D h
  exact ka j h0 (by omega) h1
theorem q75_dj {j k : Int} (h : q75 b i F) (h' : q75 b j F) (hn : i ≠ j) (h0 : dV F b i ≤ k) (h1 : k < dV F b i + dL F b i) (h2 : dV F b j ≤ k) (h3 : k < dV F b j + dL F b j) : False := by
  obtain ⟨⟨z, ⟨hD, hh⟩, i0, i1, i2, -⟩, hi, -⟩ := h
  obtain ⟨⟨-, -, j0, j1, j2, -⟩, hj, -⟩ := h'
  obtain ⟨-, ka, kb, kw, k6, or, -⟩ := hD
  rcases (show i < j ∨ j < i by omega) with c | c
  · have := or i j i0 c j1 i2 j2 hi hj
    omega
  · have := or j i j0 c i1 j2 i2 hj hi
    omega
theorem q85_0 {t : Int} (hC : dC F b) (hz : ∃ q, 0 ≤ q ∧ q ≤ 5 ∧ b = 39700 * q) (h0 : 0 ≤ t) (h1 : t < F (b + 4)) (hk : dK F b t = 1) (hh : dH F b t = 0) : dDone F b t := by
  refine ⟨hz, hC, h0, h1, hk, fun c w => ?_⟩
  have := hC.2 c
  rw [← w] at this
  omega
theorem q85_1 {t k : Int} (h : q75 b i F) (hk : iK F b k = 0) (h0 : dV F b i ≤ k) (h1 : k < dV F b i + dL F b i) (hn : iN F b k = t) (ht : dK F b t = 1) : dDone F b t := by
  have hq := h
  obtain ⟨⟨z, hC, i0, i1, i2, i3⟩, hi, hj⟩ := h
  have hD := hC.1
  have l := lw hD i0 i1 i2
  have u := li0 hD (k := k) (by omega) (by omega) hk
  rw [hn] at u
  refine ⟨z, hC, u.1, u.2, ht, fun c w => ?_⟩
  have i4 := i3 c
  obtain ⟨-, ka, kb, kw, k6, or, en, -, -, -, -, u1⟩ := hD
  obtain ⟨o, ab, bl, it, -⟩ := u1 c
  rcases (show i < fT F b 0 ∨ fT F b 0 < i by omega) with d | d
  · have e1 := bl i i0 d i2
    have e2 := it k (by omega) (by omega) (Or.inl hk)
    omega
  · have := (ab i d i1).2 i2
    omega
end CD
section CP
variable {F P A PL CH P' A' PL' CH' : Int → Int} {b i k p n e : Int}
theorem i2n {p : Int} (h : 0 ≤ p) : ((p.toNat : Nat) : Int) = p := Int.toNat_of_nonneg h
theorem q82_75 (h : q82 b n e F P A PL) (h0 : 0 ≤ p) (h1 : p < n) : q75 b (P p) F ∧ A p = ptot F P b p.toNat ∧ plcs F PL b (dV F b (P p)) (A p) (dL F b (P p)).toNat := by
  have t := h.2.2 p.toNat (by rw [i2n h0]; exact h1)
  rw [i2n h0] at t
  exact t
/-- a place -/
theorem q82_it (h : q82 b n e F P A PL) (h0 : 0 ≤ p) (h1 : p < n) (hi : P p = i) (k0 : dV F b i ≤ k) (k1 : k < dV F b i + dL F b i) : 1 ≤ chW F b k ∧ PL k = A p + chS F b (dV F b i) (k - dV F b i).toNat ∧ 0 ≤ PL k ∧ PL k + chW F b k ≤ ptot F P b (p.toNat + 1) ∧ ptot F P b p.toNat ≤ PL k ∧ PL k + chW F b k ≤ e := by
  obtain ⟨t1, t2, t3⟩ := q82_75 h h0 h1
  rw [hi] at t1 t3
  have u := t3 (k - dV F b i).toNat (by omega)
  rw [i2n (by omega), show dV F b i + (k - dV F b i) = k by omega] at u
  have e1 := chS_s (F := F) (b := b) (dV F b i) (k - dV F b i).toNat
  rw [i2n (by omega), show dV F b i + (k - dV F b i) = k by omega] at e1
  have e2 := chS_le (F := F) (b := b) (dV F b i) (show (k - dV F b i).toNat + 1 ≤ (dL F b i).toNat by omega)
  have e3 := ptot_s (F := F) (b := b) P p.toNat
  rw [i2n h0, hi] at e3
  have e4 := ptot_le (F := F) (b := b) P (show p.toNat + 1 ≤ n.toNat by omega)
  have e5 := h.2.1
  have e6 := ptot_0 (F := F) (b := b) P p.toNat
  have e7 := chS_0 (F := F) (b := b) (dV F b i) (k - dV F b i).toNat
  exact ⟨u.2, u.1, by omega, by omega, by omega, by omega⟩
/-- places of one part, in order -/
theorem q82_nx (h : q82 b n e F P A PL) (h0 : 0 ≤ p) (h1 : p < n) (hi : P p = i) (k0 : dV F b i ≤ k) (k1 : k + 1 < dV F b i + dL F b i) : PL (k + 1) = PL k + chW F b k := by
  have t := q82_it h h0 h1 hi k0 (by omega)
  have u := q82_it h h0 h1 hi (k := k + 1) (by omega) k1
  have e1 := chS_s (F := F) (b := b) (dV F b i) (k - dV F b i).toNat
  rw [i2n (by omega), show dV F b i + (k - dV F b i) = k by omega] at e1
  rw [show (k + 1 - dV F b i).toNat = (k - dV F b i).toNat + 1 by omega, e1] at u
  omega
theorem q82_lt {l : Int} (h : q82 b n e F P A PL) (h0 : 0 ≤ p) (h1 : p < n) (hi : P p = i) (k0 : dV F b i ≤ l) (k1 : l < k) (k2 : k < dV F b i + dL F b i) : PL l < PL k := by
  have t := q82_it h h0 h1 hi k0 (by omega)
  have u := q82_it h h0 h1 hi (k := k) (by omega) k2
  have e1 := chS_s (F := F) (b := b) (dV F b i) (l - dV F b i).toNat
  rw [i2n (by omega), show dV F b i + (l - dV F b i) = l by omega] at e1
  have e2 := chS_le (F := F) (b := b) (dV F b i) (show (l - dV F b i).toNat + 1 ≤ (k - dV F b i).toNat by omega)
  omega
theorem q82_lt2 {q j l : Int} (h : q82 b n e F P A PL) (q0 : 0 ≤ q) (q1 : q < p) (h1 : p < n) (hi : P p = i) (hj : P q = j) (k0 : dV F b j ≤ l) (k1 : l < dV F b j + dL F b j) (k2 : dV F b i ≤ k) (k3 : k < dV F b i + dL F b i) : PL l < PL k := by
  have t := q82_it h q0 (by omega) hj k0 k1
  have u := q82_it h (by omega) h1 hi k2 k3
  have e := ptot_le (F := F) (b := b) P (show q.toNat + 1 ≤ p.toNat by omega)
  omega
theorem q83_0 (hp : 0 ≤ p) (hi : P p = i) (h : q75 b i F) (hk : k = dV F b i) (he : e = A p) : q83 b p i k e F P A PL := by
  have t := q75_end h
  refine ⟨hp, hi, h, by omega, ?_, ?_, ?_⟩
  · have := t.1.1
    omega
  · rw [hk, Int.sub_self]
    intro j hj
    exact absurd hj (Nat.not_lt_zero _)
  · rw [hk, Int.sub_self, he]
    exact (Int.add_zero _).symm
theorem q83_s {c : Int} (h : q83 b p i (k - 1) (e - c) F P A PL) (hl : PL (k - 1) = e - c) (hc : chW F b (k - 1) = c) (h1 : 1 ≤ c) (hk : k ≤ dV F b i + dL F b i) : q83 b p i k e F P A PL := by
  obtain ⟨hp, hi, h75, k0, k1, h2, h3⟩ := h
  have e0 : (k - dV F b i).toNat = (k - 1 - dV F b i).toNat + 1 := by omega
  have e1 := chS_s (F := F) (b := b) (dV F b i) (k - 1 - dV F b i).toNat
  rw [i2n (by omega), show dV F b i + (k - 1 - dV F b i) = k - 1 by omega, ← e0] at e1
  refine ⟨hp, hi, h75, by omega, hk, fun j hj => ?_, by omega⟩
  rcases (show j < (k - 1 - dV F b i).toNat ∨ j = (k - 1 - dV F b i).toNat by omega) with d | d
  · exact h2 j d
  · rw [d, i2n (by omega), show dV F b i + (k - 1 - dV F b i) = k - 1 by omega]
    exact ⟨by omega, by omega⟩
theorem q82_0 : q82 b 0 0 F P A PL := ⟨Int.le_refl _, rfl, fun p hp => absurd hp (by omega)⟩
theorem q82_s (h : q82 b (n - 1) (A (n - 1)) F P A PL) (h' : q83 b (n - 1) i k e F P A PL) (hk : k = dV F b i + dL F b i) (hn : 1 ≤ n) : q82 b n e F P A PL := by
  obtain ⟨-, a1, a2⟩ := h
  obtain ⟨-, hi, h75, k0, k1, h2, h3⟩ := h'
  rw [hk, show dV F b i + dL F b i - dV F b i = dL F b i by omega] at h2 h3
  have e0 : n.toNat = (n - 1).toNat + 1 := by omega
  have e1 := ptot_s (F := F) (b := b) P (n - 1).toNat
  rw [i2n (by omega), hi, ← e0] at e1
  refine ⟨by omega, by omega, fun p hp => ?_⟩
  rcases (show (p : Int) < n - 1 ∨ p = (n - 1).toNat by omega) with d | d
  · exact a2 p d
  · have e2 : ((p : Nat) : Int) = n - 1 := by omega
    rw [e2, hi, d]
    exact ⟨h75, a1, h2⟩
theorem q88_0 {a : Int} (h : q82 b n e F P A PL) (h0 : 0 ≤ p) (h1 : p < n) (hi : P p = i) (hk : k = dV F b i) (ha : a = A p) : q88 b p i k a F P A := by
  have t := q75_end (q82_75 h h0 h1).1
  rw [hi] at t
  refine ⟨h0, hi, by omega, ?_, ?_⟩
  · have := t.1.1
    omega
  · rw [hk, Int.sub_self, ha]
    exact (Int.add_zero _).symm
theorem q88_s {a c : Int} (h : q88 b p i (k - 1) (a - c) F P A) (hc : chW F b (k - 1) = c) (hk : k ≤ dV F b i + dL F b i) : q88 b p i k a F P A := by
  obtain ⟨hp, hi, k0, k1, h3⟩ := h
  have e0 : (k - dV F b i).toNat = (k - 1 - dV F b i).toNat + 1 := by omega
  have e1 := chS_s (F := F) (b := b) (dV F b i) (k - 1 - dV F b i).toNat
  rw [i2n (by omega), show dV F b i + (k - 1 - dV F b i) = k - 1 by omega, ← e0] at e1
  exact ⟨hp, hi, by omega, hk, by omega⟩
theorem q88_pl {a : Int} (h : q88 b p i k a F P A) (h2 : q82 b n e F P A PL) (h1 : p < n) (hk : k < dV F b i + dL F b i) : PL k = a ∧ 0 ≤ a ∧ a + chW F b k ≤ e := by
  obtain ⟨hp, hi, k0, -, h3⟩ := h
  have t := q82_it h2 hp h1 hi k0 hk
  omega
/-! frames -/
theorem plcs_fr {V a : Int} {m : Nat} (h : plcs F PL b V a m) (hf : ∀ x, V ≤ x → x < V + m → PL' x = PL x) : plcs F PL' b V a m := fun j hj => by
  rw [hf (V + j) (by omega) (by omega)]
  exact h j hj
theorem q83_PL (h : q83 b p i k e F P A PL) (hf : ∀ x, x ≠ k → PL' x = PL x) : q83 b p i k e F P A PL' := by
  obtain ⟨hp, hi, h75, k0, k1, h2, h3⟩ := h
  exact ⟨hp, hi, h75, k0, k1, plcs_fr h2 fun x _ _ => hf x (by omega), h3⟩
theorem q82_PL {m e' : Int} (h : q82 b n e F P A PL) (h' : q83 b n i k e' F P A PL) (h8 : q80 m P) (hm : n < m) (hk : k < dV F b i + dL F b i) (hf : ∀ x, x ≠ k → PL' x = PL x) : q82 b n e F P A PL' := by
  obtain ⟨-, hi, h75, k0, -, -, -⟩ := h'
  obtain ⟨a0, a1, a2⟩ := h
  refine ⟨a0, a1, fun p hp => ?_⟩
  obtain ⟨t1, t2, t3⟩ := a2 p hp
  refine ⟨t1, t2, plcs_fr t3 fun x x0 x1 => hf x fun w => ?_⟩
  have hne : P p ≠ i := by
    rw [← hi]
    exact h8.1 p n (by omega) hp hm
  have u := (q75_end t1).1.1
  exact q75_dj (k := k) t1 h75 hne (by omega) (by omega) k0 hk
theorem q82_P (h : q82 b n e F P A PL) (hf : ∀ x, x < n → P' x = P x) : q82 b n e F P' A PL := by
  obtain ⟨a0, a1, a2⟩ := h
  refine ⟨a0, ?_, fun p hp => ?_⟩
  · rw [ptot_fr fun p hp => hf p (by omega)]
    exact a1
  · rw [hf p hp, ptot_fr fun q hq => hf q (by omega)]
    exact a2 p hp
theorem q82_A (h : q82 b n e F P A PL) (hf : ∀ x, x < n → A' x = A x) : q82 b n e F P A' PL := by
  obtain ⟨a0, a1, a2⟩ := h
  refine ⟨a0, a1, fun p hp => ?_⟩
  rw [hf p hp]
  exact a2 p hp
theorem q83_P (h : q83 b p i k e F P A PL) (hf : P' p = P p) : q83 b p i k e F P' A PL := by
  obtain ⟨hp, hi, h2⟩ := h
  exact ⟨hp, hf.trans hi, h2⟩
theorem q84_P (h : q84 b n F P) (hf : ∀ x, x < n → P' x = P x) : q84 b n F P' := fun p p0 p1 => by
  rw [hf p p1]
  exact h p p0 p1
theorem q87_P (h : q87 b i k n F P) (hf : ∀ x, x < n → P' x = P x) : q87 b i k n F P' := fun l l0 l1 hc => by
  obtain ⟨p, p0, p1, p2⟩ := h l l0 l1 hc
  exact ⟨p, p0, p1, (hf p p1).trans p2⟩
theorem q86_P {m : Int} (h : q86 b n m F P) (h1 : ∀ x, x < n → P' x = P x) (h2 : ∀ x, x < m → P' x = P x) : q86 b n m F P' := fun p p0 p1 => by
  rw [h1 p p1]
  exact q87_P (h p p0 p1) h2
theorem q80_P (h : q80 n P) (hf : ∀ x, x < n → P' x = P x) : q80 n P' := by
  refine ⟨fun p q p0 p1 q1 => ?_, fun p p0 p1 => ?_⟩
  · rw [hf p (by omega), hf q q1]
    exact h.1 p q p0 p1 q1
  · rw [hf p p1]
    exact h.2 p p0 p1
theorem q81_P {t : Int} (h : q81 t k P) (hf : ∀ x, x < k → P' x = P x) : q81 t k P' := fun p p0 p1 => by
  rw [hf p p1]
  exact h p p0 p1
theorem enc_CH (h : enc F P A PL CH b k) (hf : CH' (PL k) = CH (PL k)) : enc F P A PL CH' b k := by
  unfold enc at *
  rw [hf]
  exact h
theorem q89_CH {c : Int} (h : q89 b i k F P A PL CH) (h2 : q82 b n e F P A PL) (h0 : 0 ≤ p) (h1 : p < n) (hi : P p = i) (hk : k < dV F b i + dL F b i) (hc : PL k ≤ c) (hf : ∀ x, x ≠ c → CH' x = CH x) : q89 b i k F P A PL CH' := fun l l0 l1 => by
  have t := q82_lt h2 h0 h1 hi l0 l1 hk
  exact enc_CH (h l l0 l1) (hf _ (by omega))
theorem q90_CH {c : Int} (h : q90 b p F P A PL CH) (h2 : q82 b n e F P A PL) (h1 : p < n) (hi : P p = i) (k0 : dV F b i ≤ k) (hk : k < dV F b i + dL F b i) (hc : PL k ≤ c) (hf : ∀ x, x ≠ c → CH' x = CH x) : q90 b p F P A PL CH' := fun q q0 q1 l l0 l1 => by
  have t := q82_lt2 h2 q0 q1 h1 hi rfl l0 l1 k0 hk
  exact enc_CH (h q q0 q1 l l0 l1) (hf _ (by omega))
theorem q89_s (h : q89 b i (k - 1) F P A PL CH) (he : enc F P A PL CH b (k - 1)) : q89 b i k F P A PL CH := fun l l0 l1 => by
  rcases (show l < k - 1 ∨ l = k - 1 by omega) with c | c
  · exact h l l0 c
  · rw [c]
    exact he
theorem q90_s (h : q90 b (p - 1) F P A PL CH) (hi : P (p - 1) = i) (h' : q89 b i (dV F b i + dL F b i) F P A PL CH) : q90 b p F P A PL CH := fun q q0 q1 => by
  rcases (show q < p - 1 ∨ q = p - 1 by omega) with c | c
  · exact h q q0 c
  · rw [c, hi]
    exact h'
theorem q87_m {m : Int} (h : q87 b i k m F P) (hm : m ≤ n) : q87 b i k n F P := fun l l0 l1 hc => by
  obtain ⟨p, p0, p1, p2⟩ := h l l0 l1 hc
  exact ⟨p, p0, by omega, p2⟩
theorem q87_s {m : Int} (h : q87 b i (k - 1) m F P) (hm : m ≤ n) (hc : call1 F b (k - 1) → ∃ p, 0 ≤ p ∧ p < n ∧ P p = iN F b (k - 1)) : q87 b i k n F P := fun l l0 l1 hl => by
  rcases (show l < k - 1 ∨ l = k - 1 by omega) with c | c
  · exact q87_m h hm l l0 c hl
  · rw [c] at hl ⊢
    exact hc hl
theorem q86_m {m m' : Int} (h : q86 b n m F P) (hm : m ≤ m') : q86 b n m' F P := fun p p0 p1 => q87_m (h p p0 p1) hm
theorem q86_s {m : Int} (h : q86 b (n - 1) m F P) (hi : P (n - 1) = i) (h' : q87 b i (dV F b i + dL F b i) m F P) : q86 b n m F P := fun p p0 p1 => by
  rcases (show p < n - 1 ∨ p = n - 1 by omega) with c | c
  · exact h p p0 c
  · rw [c, hi]
    exact h'
theorem q84_s (h : q84 b (n - 1) F P) (h' : dDone F b (P (n - 1))) : q84 b n F P := fun p p0 p1 => by
  rcases (show p < n - 1 ∨ p = n - 1 by omega) with c | c
  · exact h p p0 c
  · rw [c]
    exact h'
theorem q81_s {t : Int} (h : q81 t (k - 1) P) (h' : P (k - 1) ≠ t) : q81 t k P := fun p p0 p1 => by
  rcases (show p < k - 1 ∨ p = k - 1 by omega) with c | c
  · exact h p p0 c
  · rw [c]
    exact h'
theorem q80_s {t : Int} (h : q80 (n - 1) P) (h' : q81 t (n - 1) P) (ht : P (n - 1) = t) (t0 : 0 ≤ t) (t1 : t ≤ 359) : q80 n P := by
  refine ⟨fun p q p0 p1 q1 => ?_, fun p p0 p1 => ?_⟩
  · rcases (show q < n - 1 ∨ q = n - 1 by omega) with c | c
    · exact h.1 p q p0 p1 c
    · rw [c, ht]
      exact h' p p0 (by omega)
  · rcases (show p < n - 1 ∨ p = n - 1 by omega) with c | c
    · exact h.2 p p0 c
    · rw [c, ht]
      exact ⟨t0, t1⟩
end CP
/-! no more than so many parts -/
/-- how many of n numbers are below m -/
def cntB (P : Int → Int) (m : Int) : Nat → Nat
  | 0 => 0
  | n + 1 => cntB P m n + if P n < m then 1 else 0
theorem cntB_s (P : Int → Int) (m : Int) (n : Nat) : cntB P m (n + 1) = cntB P m n + if P n < m then 1 else 0 := rfl
theorem cntB_all {P : Int → Int} {m : Int} : ∀ n : Nat, (∀ p : Nat, p < n → P p < m) → cntB P m n = n
  | 0, _ => rfl
  | n + 1, h => by rw [cntB_s, if_pos (h n (by omega)), cntB_all n fun p hp => h p (by omega)]
theorem cntB_none {P : Int → Int} : ∀ n : Nat, (∀ p : Nat, p < n → 0 ≤ P p) → cntB P 0 n = 0
  | 0, _ => rfl
  | n + 1, h => by
    have := h n (by omega)
    rw [cntB_s, if_neg (by omega), cntB_none n fun p hp => h p (by omega)]
theorem cntB_same {P : Int → Int} {m : Int} : ∀ n : Nat, (∀ p : Nat, p < n → P p ≠ m) → cntB P (m + 1) n = cntB P m n
  | 0, _ => rfl
  | n + 1, h => by
    have := h n (by omega)
    rw [cntB_s, cntB_s, cntB_same n fun p hp => h p (by omega)]
    split <;> split <;> omega
theorem cntB_one {P : Int → Int} {m : Int} : ∀ n : Nat, (∀ p q : Nat, p < q → q < n → P p ≠ P q) → cntB P (m + 1) n ≤ cntB P m n + 1
  | 0, _ => Nat.zero_le _
  | n + 1, h => by
    by_cases c : P n = m
    · rw [cntB_s, cntB_s, cntB_same n fun p hp w => h p n hp (by omega) (w.trans c.symm)]
      split <;> split <;> omega
    · have := cntB_one (P := P) (m := m) n fun p q hp hq => h p q hp (by omega)
      rw [cntB_s, cntB_s]
      split <;> split <;> omega
theorem cntB_le {P : Int → Int} {n : Nat} (h0 : ∀ p : Nat, p < n → 0 ≤ P p) (h1 : ∀ p q : Nat, p < q → q < n → P p ≠ P q) : ∀ m : Nat, cntB P m n ≤ m
  | 0 => by
    rw [show ((0 : Nat) : Int) = 0 from rfl, cntB_none n h0]
    exact Nat.le_refl _
  | m + 1 => by
    have t := cntB_one (P := P) (m := m) n h1
    have u := cntB_le h0 h1 m
    rw [show ((m + 1 : Nat) : Int) = (m : Int) + 1 from rfl]
    omega
theorem q80_le {n : Int} {P : Int → Int} (h : q80 n P) : n ≤ 360 := by
  rcases (show n ≤ 0 ∨ 0 ≤ n by omega) with c | c
  · omega
  · have e := i2n c
    have h0 : ∀ p : Nat, p < n.toNat → 0 ≤ P p := fun p hp => (h.2 p (by omega) (by omega)).1
    have h1 : ∀ p q : Nat, p < q → q < n.toNat → P p ≠ P q := fun p q hp hq => h.1 p q (by omega) (by omega) (by omega)
    have t := cntB_le h0 h1 360
    have u := cntB_all (P := P) (m := ((360 : Nat) : Int)) n.toNat fun p hp => by
      have := (h.2 p (by omega) (by omega)).2
      omega
    omega
/-- another one, that is none of them -/
theorem q80_lt {n t : Int} {P : Int → Int} (h : q80 n P) (h' : q81 t n P) (t0 : 0 ≤ t) (t1 : t ≤ 359) : n ≤ 359 := by
  rcases (show n ≤ -1 ∨ 0 ≤ n by omega) with d | d
  · omega
  · have h2 : q80 (n + 1) (fun x => if x = n then t else P x) := by
      refine q80_s (t := t) (q80_P (P := P) (by rw [show n + 1 - 1 = n by omega]; exact h) fun x hx => if_neg (by omega)) (q81_P (P := P) (by rw [show n + 1 - 1 = n by omega]; exact h') fun x hx => if_neg (by omega)) ?_ t0 t1
      exact if_pos (by omega)
    have := q80_le h2
    omega
