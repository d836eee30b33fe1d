/-! THE REFERENCE'S PREDICATES, 11: bits; the chip goes -/
theorem ofI32 {z : Int} (h0 : -2147483648 ≤ z) (h1 : z ≤ 2147483647) : (Int32.ofInt z).toInt = z := Int32.toInt_ofInt_of_le (by omega) (by omega)
theorem sorA32 {a b : BitVec 32} {k : Nat} (ha : 0 ≤ a.toInt) (hl : a.toInt < 2 ^ k) (hb : 0 ≤ b.toInt) (hd : ∃ z : Int, b.toInt = 2 ^ k * z) (hs : a.toInt + b.toInt ≤ 2147483647) : (a ||| b).toInt = a.toInt + b.toInt := by
  obtain ⟨z, hz⟩ := hd
  have p : (0 : Int) < 2 ^ k := Int.pow_pos (by decide)
  have na : (a.toNat : Int) = a.toInt := by
    rw [BitVec.toInt_eq_toNat_cond] at ha ⊢
    split at ha
    · rename_i h; rw [if_pos h]
    · have := a.isLt; omega
  have nb : (b.toNat : Int) = b.toInt := by
    rw [BitVec.toInt_eq_toNat_cond] at hb ⊢
    split at hb
    · rename_i h; rw [if_pos h]
    · have := b.isLt; omega
  have e2 : ((2 ^ k : Nat) : Int) = 2 ^ k := by rw [Int.natCast_pow]; rfl
  have hz0 : 0 ≤ z := by
    rcases Int.lt_or_le z 0 with q | q
    · have := Int.mul_neg_of_pos_of_neg p q
      omega
    · exact q
  have hbn : b.toNat = 2 ^ k * z.toNat := by
    have : ((2 ^ k * z.toNat : Nat) : Int) = 2 ^ k * z := by rw [Int.natCast_mul, e2, Int.toNat_of_nonneg hz0]
    omega
  have han : a.toNat < 2 ^ k := by omega
  have hn : (a ||| b).toNat = a.toNat + b.toNat := by
    rw [BitVec.toNat_or, Nat.or_comm, hbn, ← Nat.two_pow_add_eq_or_of_lt han, Nat.add_comm]
  rw [BitVec.toInt_eq_toNat_cond, hn, if_pos (by omega)]
  omega
theorem wkd_div (w : Int32) : (w >>> (24 : Int32)).toInt = w.toInt / 16777216 := sshr32 (x := w) (y := 24) (k := 24) rfl (by decide)
theorem wnm_mod (w : Int32) : (w &&& 16777215).toInt = w.toInt % 16777216 := sandQ (a := w.toBitVec) (b := (16777215 : Int32).toBitVec) (k := 24) rfl (by decide)
/-- kind and number of a word -/
theorem or_dec {a d : Int} (a0 : 0 ≤ a) (a1 : a ≤ 127) (d0 : 0 ≤ d) (d1 : d < 16777216) : or32 (16777216 * a) d = 16777216 * a + d := by
  unfold or32
  have e1 := ofI32 (z := 16777216 * a) (by omega) (by omega)
  have e2 := ofI32 (z := d) (by omega) (by omega)
  have t := sorA32 (a := (Int32.ofInt d).toBitVec) (b := (Int32.ofInt (16777216 * a)).toBitVec) (k := 24) (show 0 ≤ (Int32.ofInt d).toInt by omega) (show (Int32.ofInt d).toInt < 2 ^ 24 by omega) (show 0 ≤ (Int32.ofInt (16777216 * a)).toInt by omega) ⟨a, show (Int32.ofInt (16777216 * a)).toInt = 2 ^ 24 * a by omega⟩ (show (Int32.ofInt d).toInt + (Int32.ofInt (16777216 * a)).toInt ≤ 2147483647 by omega)
  rw [BitVec.or_comm] at t
  have t : (Int32.ofInt (16777216 * a) ||| Int32.ofInt d).toInt = (Int32.ofInt d).toInt + (Int32.ofInt (16777216 * a)).toInt := t
  omega
theorem shl24_mul {a : Int} (a0 : 0 ≤ a) (a1 : a ≤ 17) : shl24 a = 16777216 * a := by
  have h : ∀ n : Nat, n < 18 → shl24 (n : Int) = 16777216 * (n : Int) := by decide
  have := h a.toNat (by omega)
  rw [Int.toNat_of_nonneg a0] at this
  exact this
theorem wkd_of {a d : Int} (a0 : 0 ≤ a) (a1 : a ≤ 127) (d0 : 0 ≤ d) (d1 : d < 16777216) : wkd (16777216 * a + d) = a ∧ wnm (16777216 * a + d) = d := by
  unfold wkd wnm
  have e1 := ofI32 (z := 16777216 * a + d) (by omega) (by omega)
  rw [wkd_div, wnm_mod, e1]
  omega
theorem dec_or {a d : Int} (a0 : 0 ≤ a) (a1 : a ≤ 17) (d0 : 0 ≤ d) (d1 : d < 16777216) : wkd (or32 (shl24 a) d) = a ∧ wnm (or32 (shl24 a) d) = d := by
  rw [shl24_mul a0 a1, or_dec a0 (by omega) d0 d1]
  exact wkd_of a0 (by omega) d0 d1
theorem dec_call {d : Int} (d0 : 0 ≤ d) (d1 : d < 16777216) : wkd (or32 285212672 d) = 17 ∧ wnm (or32 285212672 d) = d := by
  rw [show (285212672 : Int) = 16777216 * 17 from rfl, or_dec (by decide) (by decide) d0 d1]
  exact wkd_of (by decide) (by decide) d0 d1
theorem dec_lit : wkd 16777216 = 1 := (wkd_of (a := 1) (d := 0) (by decide) (by decide) (by decide) (by decide)).1
theorem hop_ishr {w k : Int} (h : hopS 3 w 24 k) : wkd w = k := by
  obtain ⟨r, h1, h2⟩ := h.1 _ rfl
  cases h1
  exact h2
theorem hop_iand {w n : Int} (h : hopS 0 w 16777215 n) : wnm w = n := by
  obtain ⟨r, h1, h2⟩ := h.1 _ rfl
  cases h1
  exact h2
theorem hop_ior {a d z : Int} (h : hopS 1 a d z) : or32 a d = z := by
  obtain ⟨r, h1, h2⟩ := h.1 _ rfl
  cases h1
  exact h2
theorem hop_ishl {a z : Int} (h : hopS 2 a 24 z) : shl24 a = z := by
  obtain ⟨r, h1, h2⟩ := h.1 _ rfl
  have h1 : some (Int32.ofInt a <<< (Int32.ofInt 24 &&& 31)) = some r := h1
  have h3 := Option.some.inj h1
  rw [show (Int32.ofInt 24 &&& 31 : Int32) = 24 from by decide] at h3
  rw [← h2, ← h3]
  rfl
/-! what is learnt of it -/
section CG
variable {CH : Int → Int} {n e w k m : Int}
theorem gd (h : q20 n CH) (h' : q21 e CH) : good CH n e := by
  obtain ⟨S, s1, s2⟩ := h
  exact s2 _ (h' S s1)
theorem q21_1 (h : q21 e CH) (hk : 2 ≤ wkd (CH e)) : q21 (e + 1) CH := fun S hS => (hS.2 e (h S hS)).2.2.1 hk
theorem q21_0 (h : q21 e CH) (hk : wkd (CH e) = 0) (hn : wnm (CH e) ≠ 150) : q21 (e + 1) CH := fun S hS => (hS.2 e (h S hS)).1 hk hn
theorem q21_2 (h : q21 e CH) (hk : wkd (CH e) = 1) : q21 (e + 2) CH := fun S hS => (hS.2 e (h S hS)).2.1 hk
theorem q21_j (h : q21 e CH) (hk : ild (wkd (CH e)) ∨ wkd (CH e) = 17) : q21 (wnm (CH e)) CH := fun S hS => (hS.2 e (h S hS)).2.2.2 hk
end CG
section CQ
variable {F P A PL CH : Int → Int} {b n m m' p k : Int}
theorem q80_inj {i j : Int} (h : q80 n P) (i0 : 0 ≤ i) (i1 : i < n) (j0 : 0 ≤ j) (j1 : j < n) (e : P i = P j) : i = j := by
  rcases (show i < j ∨ i = j ∨ j < i by omega) with c | c | c
  · exact absurd e (h.1 i j i0 c j1)
  · exact c
  · exact absurd e.symm (h.1 j i j0 c i1)
theorem ptot_bd (h : q82 b m n F P A PL) : ∀ q : Nat, (q : Int) ≤ m → ptot F P b q ≤ 8000 * (q : Int)
  | 0, _ => Int.le_refl _
  | q + 1, hq => by
    have t := q75_end (q82_75 h (p := q) (by omega) (by omega)).1
    have u := chS_0 (F := F) (b := b) (dV F b (P q)) (dL F b (P q)).toNat
    have v := ptot_bd h q (by omega)
    have e := ptot_s (F := F) (b := b) P q
    omega
/-- where an item's words begin -/
def plS (F P PL : Int → Int) (b m a : Int) : Prop := ∃ p k, 0 ≤ p ∧ p < m ∧ dV F b (P p) ≤ k ∧ k < dV F b (P p) + dL F b (P p) ∧ PL k = a
theorem plS_1 (h : q82 b m n F P A PL) (p0 : 0 ≤ p) (p1 : p < m) : plS F P PL b m (A p) := by
  have t := q82_75 h p0 p1
  have u := (q75_end t.1).1.1
  have v := q82_it h p0 p1 rfl (k := dV F b (P p)) (by omega) (by omega)
  refine ⟨p, dV F b (P p), p0, p1, by omega, by omega, ?_⟩
  rw [v.2.1, Int.sub_self]
  exact Int.add_zero _
/-- what a word is -/
theorem q20_at (h : q82 b m n F P A PL) (h90 : q90 b m F P A PL CH) (h86 : q86 b m m F P) (h80 : q80 m' P) (hm' : m ≤ m') (p0 : 0 ≤ p) (p1 : p < m) (k0 : dV F b (P p) ≤ k) (k1 : k < dV F b (P p) + dL F b (P p)) :
    (wkd (CH (PL k)) = 1 ∧ chW F b k = 2 ∧ k ≠ dV F b (P p) + dL F b (P p) - 1) ∨
    ((wkd (CH (PL k)) = 17 ∨ ild (wkd (CH (PL k)))) ∧ chW F b k = 1 ∧ k ≠ dV F b (P p) + dL F b (P p) - 1 ∧ plS F P PL b m (wnm (CH (PL k)))) ∨
    ((wkd (CH (PL k)) = 4 ∨ (11 ≤ wkd (CH (PL k)) ∧ wkd (CH (PL k)) ≤ 13)) ∧ chW F b k = 1 ∧ k ≠ dV F b (P p) + dL F b (P p) - 1) ∨
    (wkd (CH (PL k)) = 0 ∧ chW F b k = 1 ∧ (wnm (CH (PL k)) ≠ 150 → k ≠ dV F b (P p) + dL F b (P p) - 1) ∧ (wnm (CH (PL k)) ≤ 82 ∨ (147 ≤ wnm (CH (PL k)) ∧ wnm (CH (PL k)) ≤ 150))) := by
  have h360 := q80_le h80
  obtain ⟨t1, t2, t3⟩ := q82_75 h p0 p1
  have v := q82_it h p0 p1 rfl k0 k1
  have x := q75_end t1
  have y := q75_it t1 k0 k1
  have he := h90 p p0 p1 k k0 k1
  have cp := chW_pos v.1
  have ls : k = dV F b (P p) + dL F b (P p) - 1 → iK F b k = 0 ∧ iN F b k = 150 := fun c => by
    rw [c]
    exact ⟨x.1.2.1, x.1.2.2.1⟩
  have d150 := q75_172 t1 (j := 150) (by decide) (by decide)
  have bd : ∀ q : Int, 0 ≤ q → q ≤ m → ptot F P b q.toNat ≤ 2880000 := fun q q0 q1 => by
    have e := i2n q0
    have := ptot_bd h q.toNat (by omega)
    omega
  have en : n ≤ 2880000 := by
    rw [h.2.1]
    exact bd m (by omega) (by omega)
  rcases he with ⟨g1, g2⟩ | ⟨g1, g2, g3⟩ | ⟨g1, g2, j, nn, j0, j1, j2, j3, j4⟩ | ⟨g1, g2⟩ | ⟨g1, g2, g3, g4, g5, g6⟩ | ⟨g1, g2, g3, g4, g5⟩
  · rw [g2]
    exact Or.inl ⟨dec_lit, chW_lit g1, fun c => by have := (ls c).1; omega⟩
  · rw [g3]
    refine Or.inl ⟨dec_lit, ?_, fun c => ?_⟩
    · have := cp.2.2 g1
      omega
    · have q := (ls c).2
      rw [q, d150] at g2
      omega
  · obtain ⟨p', q0, q1, q2⟩ := h86 p p0 p1 k k0 k1 ⟨g1, g2⟩
    have ej : j = p' := by
      rcases (show nn ≤ m' ∨ m' < nn by omega) with d | d
      · exact q80_inj h80 j0 (by omega) q0 (by omega) (j3.trans q2.symm)
      · exact q80_inj j2 j0 j1 q0 (by omega) (j3.trans q2.symm)
    have u := q82_75 h q0 q1
    have w1 := ptot_0 (F := F) (b := b) P p'.toNat
    have w2 := bd p' q0 (by omega)
    have eA : A p' = ptot F P b p'.toNat := u.2.1
    have dc := dec_call (d := A p') (by omega) (by omega)
    rw [j4, ej]
    refine Or.inr (Or.inl ⟨Or.inl dc.1, chW_call g1 g2, fun c => ?_, ?_⟩)
    · have q := (ls c).2
      rw [q, d150] at g2
      omega
    · rw [dc.2]
      exact plS_1 h q0 q1
  · have z := y.2.1 g1
    have u := q82_it h p0 p1 rfl z.1 z.2
    have dc := dec_or (a := iK F b k) (d := PL (iN F b k)) (by unfold ild at g1; omega) (by unfold ild at g1; omega) (by omega) (by omega)
    rw [g2]
    refine Or.inr (Or.inl ⟨Or.inr (by rw [dc.1]; exact g1), chW_one (by unfold ild at g1; omega), fun c => ?_, ?_⟩)
    · have := (ls c).1
      unfold ild at g1
      omega
    · rw [dc.2]
      exact ⟨p, iN F b k, p0, p1, z.1, z.2, rfl⟩
  · have dc := dec_or (a := iK F b k) (d := iN F b k) (by omega) (by omega) (by omega) (by omega)
    have c10 := cp.1
    rw [g6]
    refine Or.inr (Or.inr (Or.inl ⟨?_, chW_one (by omega), fun c => ?_⟩))
    · rw [dc.1]
      unfold ild at g3
      omega
    · have := (ls c).1
      omega
  · have dc := dec_or (a := 0) (d := iN F b k) (by omega) (by omega) (by omega) (by omega)
    have cq : iN F b k < 70 ∨ (74 < iN F b k ∧ iN F b k < 83) ∨ (147 ≤ iN F b k ∧ iN F b k ≤ 150) := by
      have := cp.2.2 g1
      omega
    rw [g5, dc.1, dc.2]
    refine Or.inr (Or.inr (Or.inr ⟨rfl, chW_prim g1 g2 cq, fun c d => c (ls d).2, by omega⟩))
/-- all places of a chip that has just been made are as they should -/
theorem q20_made (h : q82 b m n F P A PL) (hm : 1 ≤ m) (h90 : q90 b m F P A PL CH) (h86 : q86 b m m F P) (h80 : q80 m' P) (hm' : m ≤ m') : q20 n CH := by
  refine ⟨plS F P PL b m, ⟨?_, ?_⟩, ?_⟩
  · have t := plS_1 h (p := 0) (by omega) (by omega)
    have u := (q82_75 h (p := 0) (by omega) (by omega)).2.1
    rw [u] at t
    exact t
  · intro a ⟨p, k, p0, p1, k0, k1, ha⟩
    have T := q20_at h h90 h86 h80 hm' p0 p1 k0 k1
    have nx : k ≠ dV F b (P p) + dL F b (P p) - 1 → plS F P PL b m (a + chW F b k) := fun c => by
      refine ⟨p, k + 1, p0, p1, by omega, by omega, ?_⟩
      rw [q82_nx h p0 p1 rfl k0 (by omega), ha]
    rw [ha] at T
    rcases T with ⟨T1, T2, T3⟩ | ⟨T1, T2, T3, T4⟩ | ⟨T1, T2, T3⟩ | ⟨T1, T2, T3, T4⟩
    · have nx := nx T3
      rw [T2] at nx
      refine ⟨fun c => by omega, fun _ => nx, fun c => by omega, fun c => ?_⟩
      unfold ild at c
      omega
    · have nx := nx T3
      rw [T2] at nx
      refine ⟨fun c _ => ?_, fun c => ?_, fun _ => nx, fun _ => T4⟩
      · unfold ild at T1
        omega
      · unfold ild at T1
        omega
    · have nx := nx T3
      rw [T2] at nx
      refine ⟨fun c => by omega, fun c => by omega, fun _ => nx, fun c => ?_⟩
      unfold ild at c
      omega
    · refine ⟨fun _ c => ?_, fun c => by omega, fun c => by omega, fun c => ?_⟩
      · have nx := nx (T3 c)
        rw [T2] at nx
        exact nx
      · unfold ild at c
        omega
  · intro a ⟨p, k, p0, p1, k0, k1, ha⟩
    have T := q20_at h h90 h86 h80 hm' p0 p1 k0 k1
    have v := q82_it h p0 p1 rfl k0 k1
    rw [ha] at T v
    unfold good
    rcases T with ⟨T1, T2, T3⟩ | ⟨T1, T2, T3, T4⟩ | ⟨T1, T2, T3⟩ | ⟨T1, T2, T3, T4⟩
    · exact ⟨by omega, by omega, by omega, by omega, fun c => by omega, fun c => by omega⟩
    · unfold ild at T1
      exact ⟨by omega, by omega, by omega, by omega, fun c => by omega, fun c => by omega⟩
    · exact ⟨by omega, by omega, by omega, by omega, fun c => by omega, fun c => by omega⟩
    · exact ⟨by omega, by omega, by omega, by omega, fun c => by omega, fun c => by omega⟩
end CQ
