/-! THE LAW OVER CONTRACTS: methods (printed by gen71.py) -/
theorem mr_26 {X : zX} {M : zM} {t n k0 k1 u0 u1 u2 ct cn c0 c1 : Int} (h : cI ct cn c0 c1 M) (hr : rI t [u0, u1, u2, k0, k1] M) (hb : bI t n k0 k1) (hu : uR n u0 u1 u2) (x1 x2 x3 : Int32) : ∃ (r : Int32) (t2 n2 k02 k12 v0 v1 v2 : Int) (M' : zM), lCallOK X 489 [.ref 474, .int x1, .int x2, .int x3] M r M' ∧ cI ct cn c0 c1 M' ∧ rI t2 [v0, v1, v2, k02, k12] M' ∧ uR n2 v0 v1 v2 ∧ spP x1.toInt x2.toInt x3.toInt t n k0 k1 r.toInt t2 n2 k02 k12 := by
  have hb' := hb
  obtain ⟨b1, b2, b3, b4, b5, b6, b7, b8⟩ := hb'
  have hu' := hu
  unfold uR at hu'
  rcases (show x1.toInt ≤ -1 ∨ 3 ≤ x1.toInt ∨ x1.toInt = 0 ∨ x1.toInt = 1 ∨ x1.toInt = 2 by omega) with a1 | a1 | a1 | a1 | a1
  · exact mr_26_0 h hr hb hu x1 x2 x3 (by omega)
  · exact mr_26_1 h hr hb hu x1 x2 x3 (by omega)
  · rcases (show u0 = 0 ∨ u0 = 1 by omega) with a1 | a1
    · exact mr_26_2 h hr hb hu x1 x2 x3 (⟨by omega, by omega, by omega, by omega, by omega⟩)
    · rcases (show x2.toInt ≤ -1 ∨ 8 ≤ x2.toInt ∨ (0 ≤ x2.toInt ∧ x2.toInt ≤ 7) by omega) with a2 | a2 | a2
      · exact mr_26_5 h hr hb hu x1 x2 x3 (⟨by omega, by omega, by omega, by omega, by omega, by omega⟩)
      · exact mr_26_8 h hr hb hu x1 x2 x3 (⟨by omega, by omega, by omega, by omega, by omega, by omega⟩)
      · rcases (show x3.toInt ≤ -1 ∨ 513 ≤ x3.toInt + t ∨ (0 ≤ x3.toInt ∧ x3.toInt + t ≤ 512) by omega) with a3 | a3 | a3
        · exact mr_26_11 h hr hb hu x1 x2 x3 (⟨by omega, by omega, by omega, by omega, by omega, by omega, by omega, by omega⟩)
        · exact mr_26_14 h hr hb hu x1 x2 x3 (⟨by omega, by omega, by omega, by omega, by omega, by omega, by omega, by omega⟩)
        · exact mr_26_17 h hr hb hu x1 x2 x3 (⟨by omega, by omega, by omega, by omega, by omega, by omega, by omega, by omega, by omega⟩)
  · rcases (show u1 = 0 ∨ u1 = 1 by omega) with a1 | a1
    · exact mr_26_3 h hr hb hu x1 x2 x3 (⟨by omega, by omega, by omega, by omega, by omega⟩)
    · rcases (show x2.toInt ≤ -1 ∨ 8 ≤ x2.toInt ∨ (0 ≤ x2.toInt ∧ x2.toInt ≤ 7) by omega) with a2 | a2 | a2
      · exact mr_26_6 h hr hb hu x1 x2 x3 (⟨by omega, by omega, by omega, by omega, by omega, by omega⟩)
      · exact mr_26_9 h hr hb hu x1 x2 x3 (⟨by omega, by omega, by omega, by omega, by omega, by omega⟩)
      · rcases (show x3.toInt ≤ -1 ∨ 513 ≤ x3.toInt + t ∨ (0 ≤ x3.toInt ∧ x3.toInt + t ≤ 512) by omega) with a3 | a3 | a3
        · exact mr_26_12 h hr hb hu x1 x2 x3 (⟨by omega, by omega, by omega, by omega, by omega, by omega, by omega, by omega⟩)
        · exact mr_26_15 h hr hb hu x1 x2 x3 (⟨by omega, by omega, by omega, by omega, by omega, by omega, by omega, by omega⟩)
        · exact mr_26_18 h hr hb hu x1 x2 x3 (⟨by omega, by omega, by omega, by omega, by omega, by omega, by omega, by omega, by omega⟩)
  · rcases (show u2 = 0 ∨ u2 = 1 by omega) with a1 | a1
    · exact mr_26_4 h hr hb hu x1 x2 x3 (⟨by omega, by omega, by omega, by omega, by omega⟩)
    · rcases (show x2.toInt ≤ -1 ∨ 8 ≤ x2.toInt ∨ (0 ≤ x2.toInt ∧ x2.toInt ≤ 7) by omega) with a2 | a2 | a2
      · exact mr_26_7 h hr hb hu x1 x2 x3 (⟨by omega, by omega, by omega, by omega, by omega, by omega⟩)
      · exact mr_26_10 h hr hb hu x1 x2 x3 (⟨by omega, by omega, by omega, by omega, by omega, by omega⟩)
      · rcases (show x3.toInt ≤ -1 ∨ 513 ≤ x3.toInt + t ∨ (0 ≤ x3.toInt ∧ x3.toInt + t ≤ 512) by omega) with a3 | a3 | a3
        · exact mr_26_13 h hr hb hu x1 x2 x3 (⟨by omega, by omega, by omega, by omega, by omega, by omega, by omega, by omega⟩)
        · exact mr_26_16 h hr hb hu x1 x2 x3 (⟨by omega, by omega, by omega, by omega, by omega, by omega, by omega, by omega⟩)
        · exact mr_26_19 h hr hb hu x1 x2 x3 (⟨by omega, by omega, by omega, by omega, by omega, by omega, by omega, by omega, by omega⟩)
