/-! DECODING, FAST: what 'decode' reads, from the list of the bytes -/
def zbs (code : ByteArray) (p : Nat) : List Nat := (code.data.toList.drop p).map UInt8.toNat
theorem zbs_u1 {code : ByteArray} {p b : Nat} {r : List Nat} (h : zbs code p = b :: r) : (Reader.u1 : Decoder Nat) code p = .ok (b, p + 1) ∧ zbs code (p + 1) = r := by
  unfold zbs at h
  have hp : p < code.data.toList.length := by
    by_cases q : p < code.data.toList.length
    · exact q
    · rw [List.drop_eq_nil_of_le (by omega)] at h
      cases h
  rw [List.drop_eq_getElem_cons hp, List.map_cons] at h
  have hb := (List.cons.inj h).1
  refine ⟨?_, (List.cons.inj h).2⟩
  have hp2 : p < code.size := by simpa using hp
  have hg : code[p].toNat = b := by
    rw [← hb]
    rfl
  show (dite (p < code.size) (fun h => ((do set (p + 1); pure code[p].toNat) : Decoder Nat)) (fun _ => throw (HasTruncated.truncated p))) code p = _
  rw [dif_pos hp2, hg]
  rfl
theorem zbs_s1 {code : ByteArray} {p a : Nat} {r : List Nat} (h : zbs code p = a :: r) : (Reader.s1 : Decoder Int) code p = .ok (Reader.signed 8 a, p + 1) := by
  obtain ⟨g, -⟩ := zbs_u1 h
  show (Except.map _ ((Reader.u1 : Decoder Nat) code p)) = _
  rw [g]
  rfl
theorem zbs_u2 {code : ByteArray} {p a b : Nat} {r : List Nat} (h : zbs code p = a :: b :: r) : (Reader.u2 : Decoder Nat) code p = .ok (a * 256 + b, p + 1 + 1) := by
  obtain ⟨g, h1⟩ := zbs_u1 h
  obtain ⟨g1, -⟩ := zbs_u1 h1
  show (Except.bind ((Reader.u1 : Decoder Nat) code p) _) = _
  rw [g]
  show (Except.bind ((Reader.u1 : Decoder Nat) code (p + 1)) _) = _
  rw [g1]
  rfl
theorem zbs_s2 {code : ByteArray} {p a b : Nat} {r : List Nat} (h : zbs code p = a :: b :: r) : (Reader.s2 : Decoder Int) code p = .ok (Reader.signed 16 (a * 256 + b), p + 1 + 1) := by
  have g := zbs_u2 h
  show (Except.map _ ((Reader.u2 : Decoder Nat) code p)) = _
  rw [g]
  rfl
theorem zd_1 {code : ByteArray} {pc : Nat} {r : List Nat} (h : zbs code pc = 1 :: r) : decode code pc = .ok (.aconst_null, 1) := by
  obtain ⟨g0, h0⟩ := zbs_u1 h
  show (Except.bind ((Decoder.instr pc).runAt code pc) fun x => Except.ok (x.1, x.2 - pc)) = _
  have e : (Decoder.instr pc).runAt code pc = .ok (.aconst_null, pc + 1) := by
    show (Except.bind ((Reader.u1 : Decoder Nat) code (pc)) _) = _
    rw [g0]
    rfl
  rw [e]
  show Except.ok (_, pc + 1 - pc) = _
  rw [show pc + 1 - pc = 1 by omega]
theorem zd_2 {code : ByteArray} {pc : Nat} {r : List Nat} (h : zbs code pc = 2 :: r) : decode code pc = .ok (.iconst (-1), 1) := by
  obtain ⟨g0, h0⟩ := zbs_u1 h
  show (Except.bind ((Decoder.instr pc).runAt code pc) fun x => Except.ok (x.1, x.2 - pc)) = _
  have e : (Decoder.instr pc).runAt code pc = .ok (.iconst (-1), pc + 1) := by
    show (Except.bind ((Reader.u1 : Decoder Nat) code (pc)) _) = _
    rw [g0]
    rfl
  rw [e]
  show Except.ok (_, pc + 1 - pc) = _
  rw [show pc + 1 - pc = 1 by omega]
theorem zd_3 {code : ByteArray} {pc : Nat} {r : List Nat} (h : zbs code pc = 3 :: r) : decode code pc = .ok (.iconst (0), 1) := by
  obtain ⟨g0, h0⟩ := zbs_u1 h
  show (Except.bind ((Decoder.instr pc).runAt code pc) fun x => Except.ok (x.1, x.2 - pc)) = _
  have e : (Decoder.instr pc).runAt code pc = .ok (.iconst (0), pc + 1) := by
    show (Except.bind ((Reader.u1 : Decoder Nat) code (pc)) _) = _
    rw [g0]
    rfl
  rw [e]
  show Except.ok (_, pc + 1 - pc) = _
  rw [show pc + 1 - pc = 1 by omega]
theorem zd_4 {code : ByteArray} {pc : Nat} {r : List Nat} (h : zbs code pc = 4 :: r) : decode code pc = .ok (.iconst (1), 1) := by
  obtain ⟨g0, h0⟩ := zbs_u1 h
  show (Except.bind ((Decoder.instr pc).runAt code pc) fun x => Except.ok (x.1, x.2 - pc)) = _
  have e : (Decoder.instr pc).runAt code pc = .ok (.iconst (1), pc + 1) := by
    show (Except.bind ((Reader.u1 : Decoder Nat) code (pc)) _) = _
    rw [g0]
    rfl
  rw [e]
  show Except.ok (_, pc + 1 - pc) = _
  rw [show pc + 1 - pc = 1 by omega]
theorem zd_5 {code : ByteArray} {pc : Nat} {r : List Nat} (h : zbs code pc = 5 :: r) : decode code pc = .ok (.iconst (2), 1) := by
  obtain ⟨g0, h0⟩ := zbs_u1 h
  show (Except.bind ((Decoder.instr pc).runAt code pc) fun x => Except.ok (x.1, x.2 - pc)) = _
  have e : (Decoder.instr pc).runAt code pc = .ok (.iconst (2), pc + 1) := by
    show (Except.bind ((Reader.u1 : Decoder Nat) code (pc)) _) = _
    rw [g0]
    rfl
  rw [e]
  show Except.ok (_, pc + 1 - pc) = _
  rw [show pc + 1 - pc = 1 by omega]
theorem zd_6 {code : ByteArray} {pc : Nat} {r : List Nat} (h : zbs code pc = 6 :: r) : decode code pc = .ok (.iconst (3), 1) := by
  obtain ⟨g0, h0⟩ := zbs_u1 h
  show (Except.bind ((Decoder.instr pc).runAt code pc) fun x => Except.ok (x.1, x.2 - pc)) = _
  have e : (Decoder.instr pc).runAt code pc = .ok (.iconst (3), pc + 1) := by
    show (Except.bind ((Reader.u1 : Decoder Nat) code (pc)) _) = _
    rw [g0]
    rfl
  rw [e]
  show Except.ok (_, pc + 1 - pc) = _
  rw [show pc + 1 - pc = 1 by omega]
theorem zd_7 {code : ByteArray} {pc : Nat} {r : List Nat} (h : zbs code pc = 7 :: r) : decode code pc = .ok (.iconst (4), 1) := by
  obtain ⟨g0, h0⟩ := zbs_u1 h
  show (Except.bind ((Decoder.instr pc).runAt code pc) fun x => Except.ok (x.1, x.2 - pc)) = _
  have e : (Decoder.instr pc).runAt code pc = .ok (.iconst (4), pc + 1) := by
    show (Except.bind ((Reader.u1 : Decoder Nat) code (pc)) _) = _
    rw [g0]
    rfl
  rw [e]
  show Except.ok (_, pc + 1 - pc) = _
  rw [show pc + 1 - pc = 1 by omega]
theorem zd_8 {code : ByteArray} {pc : Nat} {r : List Nat} (h : zbs code pc = 8 :: r) : decode code pc = .ok (.iconst (5), 1) := by
  obtain ⟨g0, h0⟩ := zbs_u1 h
  show (Except.bind ((Decoder.instr pc).runAt code pc) fun x => Except.ok (x.1, x.2 - pc)) = _
  have e : (Decoder.instr pc).runAt code pc = .ok (.iconst (5), pc + 1) := by
    show (Except.bind ((Reader.u1 : Decoder Nat) code (pc)) _) = _
    rw [g0]
    rfl
  rw [e]
  show Except.ok (_, pc + 1 - pc) = _
  rw [show pc + 1 - pc = 1 by omega]
theorem zd_9 {code : ByteArray} {pc : Nat} {r : List Nat} (h : zbs code pc = 9 :: r) : decode code pc = .ok (.lconst 0, 1) := by
  obtain ⟨g0, h0⟩ := zbs_u1 h
  show (Except.bind ((Decoder.instr pc).runAt code pc) fun x => Except.ok (x.1, x.2 - pc)) = _
  have e : (Decoder.instr pc).runAt code pc = .ok (.lconst 0, pc + 1) := by
    show (Except.bind ((Reader.u1 : Decoder Nat) code (pc)) _) = _
    rw [g0]
    rfl
  rw [e]
  show Except.ok (_, pc + 1 - pc) = _
  rw [show pc + 1 - pc = 1 by omega]
theorem zd_10 {code : ByteArray} {pc : Nat} {r : List Nat} (h : zbs code pc = 10 :: r) : decode code pc = .ok (.lconst 1, 1) := by
  obtain ⟨g0, h0⟩ := zbs_u1 h
  show (Except.bind ((Decoder.instr pc).runAt code pc) fun x => Except.ok (x.1, x.2 - pc)) = _
  have e : (Decoder.instr pc).runAt code pc = .ok (.lconst 1, pc + 1) := by
    show (Except.bind ((Reader.u1 : Decoder Nat) code (pc)) _) = _
    rw [g0]
    rfl
  rw [e]
  show Except.ok (_, pc + 1 - pc) = _
  rw [show pc + 1 - pc = 1 by omega]
theorem zd_16 {code : ByteArray} {pc a : Nat} {r : List Nat} (h : zbs code pc = 16 :: a :: r) : decode code pc = .ok (.bipush (Reader.signed 8 a), 2) := by
  obtain ⟨g0, h0⟩ := zbs_u1 h
  have g1 := zbs_s1 h0
  show (Except.bind ((Decoder.instr pc).runAt code pc) fun x => Except.ok (x.1, x.2 - pc)) = _
  have e : (Decoder.instr pc).runAt code pc = .ok (.bipush (Reader.signed 8 a), pc + 1 + 1) := by
    show (Except.bind ((Reader.u1 : Decoder Nat) code (pc)) _) = _
    rw [g0]
    show (Except.bind ((Reader.s1 : Decoder Int) code (pc + 1)) _) = _
    rw [g1]
    rfl
  rw [e]
  show Except.ok (_, pc + 1 + 1 - pc) = _
  rw [show pc + 1 + 1 - pc = 2 by omega]
theorem zd_17 {code : ByteArray} {pc a b : Nat} {r : List Nat} (h : zbs code pc = 17 :: a :: b :: r) : decode code pc = .ok (.sipush (Reader.signed 16 (a * 256 + b)), 3) := by
  obtain ⟨g0, h0⟩ := zbs_u1 h
  have g1 := zbs_s2 h0
  show (Except.bind ((Decoder.instr pc).runAt code pc) fun x => Except.ok (x.1, x.2 - pc)) = _
  have e : (Decoder.instr pc).runAt code pc = .ok (.sipush (Reader.signed 16 (a * 256 + b)), pc + 1 + 1 + 1) := by
    show (Except.bind ((Reader.u1 : Decoder Nat) code (pc)) _) = _
    rw [g0]
    show (Except.bind ((Reader.s2 : Decoder Int) code (pc + 1)) _) = _
    rw [g1]
    rfl
  rw [e]
  show Except.ok (_, pc + 1 + 1 + 1 - pc) = _
  rw [show pc + 1 + 1 + 1 - pc = 3 by omega]
theorem zd_18 {code : ByteArray} {pc a : Nat} {r : List Nat} (h : zbs code pc = 18 :: a :: r) : decode code pc = .ok (.ldc a, 2) := by
  obtain ⟨g0, h0⟩ := zbs_u1 h
  obtain ⟨g1, h1⟩ := zbs_u1 h0
  show (Except.bind ((Decoder.instr pc).runAt code pc) fun x => Except.ok (x.1, x.2 - pc)) = _
  have e : (Decoder.instr pc).runAt code pc = .ok (.ldc a, pc + 1 + 1) := by
    show (Except.bind ((Reader.u1 : Decoder Nat) code (pc)) _) = _
    rw [g0]
    show (Except.bind ((Reader.u1 : Decoder Nat) code (pc + 1)) _) = _
    rw [g1]
    rfl
  rw [e]
  show Except.ok (_, pc + 1 + 1 - pc) = _
  rw [show pc + 1 + 1 - pc = 2 by omega]
theorem zd_19 {code : ByteArray} {pc a b : Nat} {r : List Nat} (h : zbs code pc = 19 :: a :: b :: r) : decode code pc = .ok (.ldc_w (a * 256 + b), 3) := by
  obtain ⟨g0, h0⟩ := zbs_u1 h
  have g1 := zbs_u2 h0
  show (Except.bind ((Decoder.instr pc).runAt code pc) fun x => Except.ok (x.1, x.2 - pc)) = _
  have e : (Decoder.instr pc).runAt code pc = .ok (.ldc_w (a * 256 + b), pc + 1 + 1 + 1) := by
    show (Except.bind ((Reader.u1 : Decoder Nat) code (pc)) _) = _
    rw [g0]
    show (Except.bind ((Reader.u2 : Decoder Nat) code (pc + 1)) _) = _
    rw [g1]
    rfl
  rw [e]
  show Except.ok (_, pc + 1 + 1 + 1 - pc) = _
  rw [show pc + 1 + 1 + 1 - pc = 3 by omega]
theorem zd_20 {code : ByteArray} {pc a b : Nat} {r : List Nat} (h : zbs code pc = 20 :: a :: b :: r) : decode code pc = .ok (.ldc2_w (a * 256 + b), 3) := by
  obtain ⟨g0, h0⟩ := zbs_u1 h
  have g1 := zbs_u2 h0
  show (Except.bind ((Decoder.instr pc).runAt code pc) fun x => Except.ok (x.1, x.2 - pc)) = _
  have e : (Decoder.instr pc).runAt code pc = .ok (.ldc2_w (a * 256 + b), pc + 1 + 1 + 1) := by
    show (Except.bind ((Reader.u1 : Decoder Nat) code (pc)) _) = _
    rw [g0]
    show (Except.bind ((Reader.u2 : Decoder Nat) code (pc + 1)) _) = _
    rw [g1]
    rfl
  rw [e]
  show Except.ok (_, pc + 1 + 1 + 1 - pc) = _
  rw [show pc + 1 + 1 + 1 - pc = 3 by omega]
theorem zd_21 {code : ByteArray} {pc a : Nat} {r : List Nat} (h : zbs code pc = 21 :: a :: r) : decode code pc = .ok (.iload a, 2) := by
  obtain ⟨g0, h0⟩ := zbs_u1 h
  obtain ⟨g1, h1⟩ := zbs_u1 h0
  show (Except.bind ((Decoder.instr pc).runAt code pc) fun x => Except.ok (x.1, x.2 - pc)) = _
  have e : (Decoder.instr pc).runAt code pc = .ok (.iload a, pc + 1 + 1) := by
    show (Except.bind ((Reader.u1 : Decoder Nat) code (pc)) _) = _
    rw [g0]
    show (Except.bind ((Reader.u1 : Decoder Nat) code (pc + 1)) _) = _
    rw [g1]
    rfl
  rw [e]
  show Except.ok (_, pc + 1 + 1 - pc) = _
  rw [show pc + 1 + 1 - pc = 2 by omega]
theorem zd_22 {code : ByteArray} {pc a : Nat} {r : List Nat} (h : zbs code pc = 22 :: a :: r) : decode code pc = .ok (.lload a, 2) := by
  obtain ⟨g0, h0⟩ := zbs_u1 h
  obtain ⟨g1, h1⟩ := zbs_u1 h0
  show (Except.bind ((Decoder.instr pc).runAt code pc) fun x => Except.ok (x.1, x.2 - pc)) = _
  have e : (Decoder.instr pc).runAt code pc = .ok (.lload a, pc + 1 + 1) := by
    show (Except.bind ((Reader.u1 : Decoder Nat) code (pc)) _) = _
    rw [g0]
    show (Except.bind ((Reader.u1 : Decoder Nat) code (pc + 1)) _) = _
    rw [g1]
    rfl
  rw [e]
  show Except.ok (_, pc + 1 + 1 - pc) = _
  rw [show pc + 1 + 1 - pc = 2 by omega]
theorem zd_25 {code : ByteArray} {pc a : Nat} {r : List Nat} (h : zbs code pc = 25 :: a :: r) : decode code pc = .ok (.aload a, 2) := by
  obtain ⟨g0, h0⟩ := zbs_u1 h
  obtain ⟨g1, h1⟩ := zbs_u1 h0
  show (Except.bind ((Decoder.instr pc).runAt code pc) fun x => Except.ok (x.1, x.2 - pc)) = _
  have e : (Decoder.instr pc).runAt code pc = .ok (.aload a, pc + 1 + 1) := by
    show (Except.bind ((Reader.u1 : Decoder Nat) code (pc)) _) = _
    rw [g0]
    show (Except.bind ((Reader.u1 : Decoder Nat) code (pc + 1)) _) = _
    rw [g1]
    rfl
  rw [e]
  show Except.ok (_, pc + 1 + 1 - pc) = _
  rw [show pc + 1 + 1 - pc = 2 by omega]
theorem zd_26 {code : ByteArray} {pc : Nat} {r : List Nat} (h : zbs code pc = 26 :: r) : decode code pc = .ok (.iload_n 0, 1) := by
  obtain ⟨g0, h0⟩ := zbs_u1 h
  show (Except.bind ((Decoder.instr pc).runAt code pc) fun x => Except.ok (x.1, x.2 - pc)) = _
  have e : (Decoder.instr pc).runAt code pc = .ok (.iload_n 0, pc + 1) := by
    show (Except.bind ((Reader.u1 : Decoder Nat) code (pc)) _) = _
    rw [g0]
    rfl
  rw [e]
  show Except.ok (_, pc + 1 - pc) = _
  rw [show pc + 1 - pc = 1 by omega]
theorem zd_27 {code : ByteArray} {pc : Nat} {r : List Nat} (h : zbs code pc = 27 :: r) : decode code pc = .ok (.iload_n 1, 1) := by
  obtain ⟨g0, h0⟩ := zbs_u1 h
  show (Except.bind ((Decoder.instr pc).runAt code pc) fun x => Except.ok (x.1, x.2 - pc)) = _
  have e : (Decoder.instr pc).runAt code pc = .ok (.iload_n 1, pc + 1) := by
    show (Except.bind ((Reader.u1 : Decoder Nat) code (pc)) _) = _
    rw [g0]
    rfl
  rw [e]
  show Except.ok (_, pc + 1 - pc) = _
  rw [show pc + 1 - pc = 1 by omega]
theorem zd_28 {code : ByteArray} {pc : Nat} {r : List Nat} (h : zbs code pc = 28 :: r) : decode code pc = .ok (.iload_n 2, 1) := by
  obtain ⟨g0, h0⟩ := zbs_u1 h
  show (Except.bind ((Decoder.instr pc).runAt code pc) fun x => Except.ok (x.1, x.2 - pc)) = _
  have e : (Decoder.instr pc).runAt code pc = .ok (.iload_n 2, pc + 1) := by
    show (Except.bind ((Reader.u1 : Decoder Nat) code (pc)) _) = _
    rw [g0]
    rfl
  rw [e]
  show Except.ok (_, pc + 1 - pc) = _
  rw [show pc + 1 - pc = 1 by omega]
theorem zd_29 {code : ByteArray} {pc : Nat} {r : List Nat} (h : zbs code pc = 29 :: r) : decode code pc = .ok (.iload_n 3, 1) := by
  obtain ⟨g0, h0⟩ := zbs_u1 h
  show (Except.bind ((Decoder.instr pc).runAt code pc) fun x => Except.ok (x.1, x.2 - pc)) = _
  have e : (Decoder.instr pc).runAt code pc = .ok (.iload_n 3, pc + 1) := by
    show (Except.bind ((Reader.u1 : Decoder Nat) code (pc)) _) = _
    rw [g0]
    rfl
  rw [e]
  show Except.ok (_, pc + 1 - pc) = _
  rw [show pc + 1 - pc = 1 by omega]
theorem zd_30 {code : ByteArray} {pc : Nat} {r : List Nat} (h : zbs code pc = 30 :: r) : decode code pc = .ok (.lload_n 0, 1) := by
  obtain ⟨g0, h0⟩ := zbs_u1 h
  show (Except.bind ((Decoder.instr pc).runAt code pc) fun x => Except.ok (x.1, x.2 - pc)) = _
  have e : (Decoder.instr pc).runAt code pc = .ok (.lload_n 0, pc + 1) := by
    show (Except.bind ((Reader.u1 : Decoder Nat) code (pc)) _) = _
    rw [g0]
    rfl
  rw [e]
  show Except.ok (_, pc + 1 - pc) = _
  rw [show pc + 1 - pc = 1 by omega]
theorem zd_31 {code : ByteArray} {pc : Nat} {r : List Nat} (h : zbs code pc = 31 :: r) : decode code pc = .ok (.lload_n 1, 1) := by
  obtain ⟨g0, h0⟩ := zbs_u1 h
  show (Except.bind ((Decoder.instr pc).runAt code pc) fun x => Except.ok (x.1, x.2 - pc)) = _
  have e : (Decoder.instr pc).runAt code pc = .ok (.lload_n 1, pc + 1) := by
    show (Except.bind ((Reader.u1 : Decoder Nat) code (pc)) _) = _
    rw [g0]
    rfl
  rw [e]
  show Except.ok (_, pc + 1 - pc) = _
  rw [show pc + 1 - pc = 1 by omega]
theorem zd_32 {code : ByteArray} {pc : Nat} {r : List Nat} (h : zbs code pc = 32 :: r) : decode code pc = .ok (.lload_n 2, 1) := by
  obtain ⟨g0, h0⟩ := zbs_u1 h
  show (Except.bind ((Decoder.instr pc).runAt code pc) fun x => Except.ok (x.1, x.2 - pc)) = _
  have e : (Decoder.instr pc).runAt code pc = .ok (.lload_n 2, pc + 1) := by
    show (Except.bind ((Reader.u1 : Decoder Nat) code (pc)) _) = _
    rw [g0]
    rfl
  rw [e]
  show Except.ok (_, pc + 1 - pc) = _
  rw [show pc + 1 - pc = 1 by omega]
theorem zd_33 {code : ByteArray} {pc : Nat} {r : List Nat} (h : zbs code pc = 33 :: r) : decode code pc = .ok (.lload_n 3, 1) := by
  obtain ⟨g0, h0⟩ := zbs_u1 h
  show (Except.bind ((Decoder.instr pc).runAt code pc) fun x => Except.ok (x.1, x.2 - pc)) = _
  have e : (Decoder.instr pc).runAt code pc = .ok (.lload_n 3, pc + 1) := by
    show (Except.bind ((Reader.u1 : Decoder Nat) code (pc)) _) = _
    rw [g0]
    rfl
  rw [e]
  show Except.ok (_, pc + 1 - pc) = _
  rw [show pc + 1 - pc = 1 by omega]
theorem zd_42 {code : ByteArray} {pc : Nat} {r : List Nat} (h : zbs code pc = 42 :: r) : decode code pc = .ok (.aload_n 0, 1) := by
  obtain ⟨g0, h0⟩ := zbs_u1 h
  show (Except.bind ((Decoder.instr pc).runAt code pc) fun x => Except.ok (x.1, x.2 - pc)) = _
  have e : (Decoder.instr pc).runAt code pc = .ok (.aload_n 0, pc + 1) := by
    show (Except.bind ((Reader.u1 : Decoder Nat) code (pc)) _) = _
    rw [g0]
    rfl
  rw [e]
  show Except.ok (_, pc + 1 - pc) = _
  rw [show pc + 1 - pc = 1 by omega]
theorem zd_43 {code : ByteArray} {pc : Nat} {r : List Nat} (h : zbs code pc = 43 :: r) : decode code pc = .ok (.aload_n 1, 1) := by
  obtain ⟨g0, h0⟩ := zbs_u1 h
  show (Except.bind ((Decoder.instr pc).runAt code pc) fun x => Except.ok (x.1, x.2 - pc)) = _
  have e : (Decoder.instr pc).runAt code pc = .ok (.aload_n 1, pc + 1) := by
    show (Except.bind ((Reader.u1 : Decoder Nat) code (pc)) _) = _
    rw [g0]
    rfl
  rw [e]
  show Except.ok (_, pc + 1 - pc) = _
  rw [show pc + 1 - pc = 1 by omega]
theorem zd_44 {code : ByteArray} {pc : Nat} {r : List Nat} (h : zbs code pc = 44 :: r) : decode code pc = .ok (.aload_n 2, 1) := by
  obtain ⟨g0, h0⟩ := zbs_u1 h
  show (Except.bind ((Decoder.instr pc).runAt code pc) fun x => Except.ok (x.1, x.2 - pc)) = _
  have e : (Decoder.instr pc).runAt code pc = .ok (.aload_n 2, pc + 1) := by
    show (Except.bind ((Reader.u1 : Decoder Nat) code (pc)) _) = _
    rw [g0]
    rfl
  rw [e]
  show Except.ok (_, pc + 1 - pc) = _
  rw [show pc + 1 - pc = 1 by omega]
theorem zd_45 {code : ByteArray} {pc : Nat} {r : List Nat} (h : zbs code pc = 45 :: r) : decode code pc = .ok (.aload_n 3, 1) := by
  obtain ⟨g0, h0⟩ := zbs_u1 h
  show (Except.bind ((Decoder.instr pc).runAt code pc) fun x => Except.ok (x.1, x.2 - pc)) = _
  have e : (Decoder.instr pc).runAt code pc = .ok (.aload_n 3, pc + 1) := by
    show (Except.bind ((Reader.u1 : Decoder Nat) code (pc)) _) = _
    rw [g0]
    rfl
  rw [e]
  show Except.ok (_, pc + 1 - pc) = _
  rw [show pc + 1 - pc = 1 by omega]
theorem zd_46 {code : ByteArray} {pc : Nat} {r : List Nat} (h : zbs code pc = 46 :: r) : decode code pc = .ok (.iaload, 1) := by
  obtain ⟨g0, h0⟩ := zbs_u1 h
  show (Except.bind ((Decoder.instr pc).runAt code pc) fun x => Except.ok (x.1, x.2 - pc)) = _
  have e : (Decoder.instr pc).runAt code pc = .ok (.iaload, pc + 1) := by
    show (Except.bind ((Reader.u1 : Decoder Nat) code (pc)) _) = _
    rw [g0]
    rfl
  rw [e]
  show Except.ok (_, pc + 1 - pc) = _
  rw [show pc + 1 - pc = 1 by omega]
theorem zd_50 {code : ByteArray} {pc : Nat} {r : List Nat} (h : zbs code pc = 50 :: r) : decode code pc = .ok (.aaload, 1) := by
  obtain ⟨g0, h0⟩ := zbs_u1 h
  show (Except.bind ((Decoder.instr pc).runAt code pc) fun x => Except.ok (x.1, x.2 - pc)) = _
  have e : (Decoder.instr pc).runAt code pc = .ok (.aaload, pc + 1) := by
    show (Except.bind ((Reader.u1 : Decoder Nat) code (pc)) _) = _
    rw [g0]
    rfl
  rw [e]
  show Except.ok (_, pc + 1 - pc) = _
  rw [show pc + 1 - pc = 1 by omega]
theorem zd_51 {code : ByteArray} {pc : Nat} {r : List Nat} (h : zbs code pc = 51 :: r) : decode code pc = .ok (.baload, 1) := by
  obtain ⟨g0, h0⟩ := zbs_u1 h
  show (Except.bind ((Decoder.instr pc).runAt code pc) fun x => Except.ok (x.1, x.2 - pc)) = _
  have e : (Decoder.instr pc).runAt code pc = .ok (.baload, pc + 1) := by
    show (Except.bind ((Reader.u1 : Decoder Nat) code (pc)) _) = _
    rw [g0]
    rfl
  rw [e]
  show Except.ok (_, pc + 1 - pc) = _
  rw [show pc + 1 - pc = 1 by omega]
theorem zd_54 {code : ByteArray} {pc a : Nat} {r : List Nat} (h : zbs code pc = 54 :: a :: r) : decode code pc = .ok (.istore a, 2) := by
  obtain ⟨g0, h0⟩ := zbs_u1 h
  obtain ⟨g1, h1⟩ := zbs_u1 h0
  show (Except.bind ((Decoder.instr pc).runAt code pc) fun x => Except.ok (x.1, x.2 - pc)) = _
  have e : (Decoder.instr pc).runAt code pc = .ok (.istore a, pc + 1 + 1) := by
    show (Except.bind ((Reader.u1 : Decoder Nat) code (pc)) _) = _
    rw [g0]
    show (Except.bind ((Reader.u1 : Decoder Nat) code (pc + 1)) _) = _
    rw [g1]
    rfl
  rw [e]
  show Except.ok (_, pc + 1 + 1 - pc) = _
  rw [show pc + 1 + 1 - pc = 2 by omega]
theorem zd_55 {code : ByteArray} {pc a : Nat} {r : List Nat} (h : zbs code pc = 55 :: a :: r) : decode code pc = .ok (.lstore a, 2) := by
  obtain ⟨g0, h0⟩ := zbs_u1 h
  obtain ⟨g1, h1⟩ := zbs_u1 h0
  show (Except.bind ((Decoder.instr pc).runAt code pc) fun x => Except.ok (x.1, x.2 - pc)) = _
  have e : (Decoder.instr pc).runAt code pc = .ok (.lstore a, pc + 1 + 1) := by
    show (Except.bind ((Reader.u1 : Decoder Nat) code (pc)) _) = _
    rw [g0]
    show (Except.bind ((Reader.u1 : Decoder Nat) code (pc + 1)) _) = _
    rw [g1]
    rfl
  rw [e]
  show Except.ok (_, pc + 1 + 1 - pc) = _
  rw [show pc + 1 + 1 - pc = 2 by omega]
theorem zd_58 {code : ByteArray} {pc a : Nat} {r : List Nat} (h : zbs code pc = 58 :: a :: r) : decode code pc = .ok (.astore a, 2) := by
  obtain ⟨g0, h0⟩ := zbs_u1 h
  obtain ⟨g1, h1⟩ := zbs_u1 h0
  show (Except.bind ((Decoder.instr pc).runAt code pc) fun x => Except.ok (x.1, x.2 - pc)) = _
  have e : (Decoder.instr pc).runAt code pc = .ok (.astore a, pc + 1 + 1) := by
    show (Except.bind ((Reader.u1 : Decoder Nat) code (pc)) _) = _
    rw [g0]
    show (Except.bind ((Reader.u1 : Decoder Nat) code (pc + 1)) _) = _
    rw [g1]
    rfl
  rw [e]
  show Except.ok (_, pc + 1 + 1 - pc) = _
  rw [show pc + 1 + 1 - pc = 2 by omega]
theorem zd_59 {code : ByteArray} {pc : Nat} {r : List Nat} (h : zbs code pc = 59 :: r) : decode code pc = .ok (.istore_n 0, 1) := by
  obtain ⟨g0, h0⟩ := zbs_u1 h
  show (Except.bind ((Decoder.instr pc).runAt code pc) fun x => Except.ok (x.1, x.2 - pc)) = _
  have e : (Decoder.instr pc).runAt code pc = .ok (.istore_n 0, pc + 1) := by
    show (Except.bind ((Reader.u1 : Decoder Nat) code (pc)) _) = _
    rw [g0]
    rfl
  rw [e]
  show Except.ok (_, pc + 1 - pc) = _
  rw [show pc + 1 - pc = 1 by omega]
theorem zd_60 {code : ByteArray} {pc : Nat} {r : List Nat} (h : zbs code pc = 60 :: r) : decode code pc = .ok (.istore_n 1, 1) := by
  obtain ⟨g0, h0⟩ := zbs_u1 h
  show (Except.bind ((Decoder.instr pc).runAt code pc) fun x => Except.ok (x.1, x.2 - pc)) = _
  have e : (Decoder.instr pc).runAt code pc = .ok (.istore_n 1, pc + 1) := by
    show (Except.bind ((Reader.u1 : Decoder Nat) code (pc)) _) = _
    rw [g0]
    rfl
  rw [e]
  show Except.ok (_, pc + 1 - pc) = _
  rw [show pc + 1 - pc = 1 by omega]
theorem zd_61 {code : ByteArray} {pc : Nat} {r : List Nat} (h : zbs code pc = 61 :: r) : decode code pc = .ok (.istore_n 2, 1) := by
  obtain ⟨g0, h0⟩ := zbs_u1 h
  show (Except.bind ((Decoder.instr pc).runAt code pc) fun x => Except.ok (x.1, x.2 - pc)) = _
  have e : (Decoder.instr pc).runAt code pc = .ok (.istore_n 2, pc + 1) := by
    show (Except.bind ((Reader.u1 : Decoder Nat) code (pc)) _) = _
    rw [g0]
    rfl
  rw [e]
  show Except.ok (_, pc + 1 - pc) = _
  rw [show pc + 1 - pc = 1 by omega]
theorem zd_62 {code : ByteArray} {pc : Nat} {r : List Nat} (h : zbs code pc = 62 :: r) : decode code pc = .ok (.istore_n 3, 1) := by
  obtain ⟨g0, h0⟩ := zbs_u1 h
  show (Except.bind ((Decoder.instr pc).runAt code pc) fun x => Except.ok (x.1, x.2 - pc)) = _
  have e : (Decoder.instr pc).runAt code pc = .ok (.istore_n 3, pc + 1) := by
    show (Except.bind ((Reader.u1 : Decoder Nat) code (pc)) _) = _
    rw [g0]
    rfl
  rw [e]
  show Except.ok (_, pc + 1 - pc) = _
  rw [show pc + 1 - pc = 1 by omega]
theorem zd_63 {code : ByteArray} {pc : Nat} {r : List Nat} (h : zbs code pc = 63 :: r) : decode code pc = .ok (.lstore_n 0, 1) := by
  obtain ⟨g0, h0⟩ := zbs_u1 h
  show (Except.bind ((Decoder.instr pc).runAt code pc) fun x => Except.ok (x.1, x.2 - pc)) = _
  have e : (Decoder.instr pc).runAt code pc = .ok (.lstore_n 0, pc + 1) := by
    show (Except.bind ((Reader.u1 : Decoder Nat) code (pc)) _) = _
    rw [g0]
    rfl
  rw [e]
  show Except.ok (_, pc + 1 - pc) = _
  rw [show pc + 1 - pc = 1 by omega]
theorem zd_64 {code : ByteArray} {pc : Nat} {r : List Nat} (h : zbs code pc = 64 :: r) : decode code pc = .ok (.lstore_n 1, 1) := by
  obtain ⟨g0, h0⟩ := zbs_u1 h
  show (Except.bind ((Decoder.instr pc).runAt code pc) fun x => Except.ok (x.1, x.2 - pc)) = _
  have e : (Decoder.instr pc).runAt code pc = .ok (.lstore_n 1, pc + 1) := by
    show (Except.bind ((Reader.u1 : Decoder Nat) code (pc)) _) = _
    rw [g0]
    rfl
  rw [e]
  show Except.ok (_, pc + 1 - pc) = _
  rw [show pc + 1 - pc = 1 by omega]
theorem zd_65 {code : ByteArray} {pc : Nat} {r : List Nat} (h : zbs code pc = 65 :: r) : decode code pc = .ok (.lstore_n 2, 1) := by
  obtain ⟨g0, h0⟩ := zbs_u1 h
  show (Except.bind ((Decoder.instr pc).runAt code pc) fun x => Except.ok (x.1, x.2 - pc)) = _
  have e : (Decoder.instr pc).runAt code pc = .ok (.lstore_n 2, pc + 1) := by
    show (Except.bind ((Reader.u1 : Decoder Nat) code (pc)) _) = _
    rw [g0]
    rfl
  rw [e]
  show Except.ok (_, pc + 1 - pc) = _
  rw [show pc + 1 - pc = 1 by omega]
theorem zd_66 {code : ByteArray} {pc : Nat} {r : List Nat} (h : zbs code pc = 66 :: r) : decode code pc = .ok (.lstore_n 3, 1) := by
  obtain ⟨g0, h0⟩ := zbs_u1 h
  show (Except.bind ((Decoder.instr pc).runAt code pc) fun x => Except.ok (x.1, x.2 - pc)) = _
  have e : (Decoder.instr pc).runAt code pc = .ok (.lstore_n 3, pc + 1) := by
    show (Except.bind ((Reader.u1 : Decoder Nat) code (pc)) _) = _
    rw [g0]
    rfl
  rw [e]
  show Except.ok (_, pc + 1 - pc) = _
  rw [show pc + 1 - pc = 1 by omega]
theorem zd_75 {code : ByteArray} {pc : Nat} {r : List Nat} (h : zbs code pc = 75 :: r) : decode code pc = .ok (.astore_n 0, 1) := by
  obtain ⟨g0, h0⟩ := zbs_u1 h
  show (Except.bind ((Decoder.instr pc).runAt code pc) fun x => Except.ok (x.1, x.2 - pc)) = _
  have e : (Decoder.instr pc).runAt code pc = .ok (.astore_n 0, pc + 1) := by
    show (Except.bind ((Reader.u1 : Decoder Nat) code (pc)) _) = _
    rw [g0]
    rfl
  rw [e]
  show Except.ok (_, pc + 1 - pc) = _
  rw [show pc + 1 - pc = 1 by omega]
theorem zd_76 {code : ByteArray} {pc : Nat} {r : List Nat} (h : zbs code pc = 76 :: r) : decode code pc = .ok (.astore_n 1, 1) := by
  obtain ⟨g0, h0⟩ := zbs_u1 h
  show (Except.bind ((Decoder.instr pc).runAt code pc) fun x => Except.ok (x.1, x.2 - pc)) = _
  have e : (Decoder.instr pc).runAt code pc = .ok (.astore_n 1, pc + 1) := by
    show (Except.bind ((Reader.u1 : Decoder Nat) code (pc)) _) = _
    rw [g0]
    rfl
  rw [e]
  show Except.ok (_, pc + 1 - pc) = _
  rw [show pc + 1 - pc = 1 by omega]
theorem zd_77 {code : ByteArray} {pc : Nat} {r : List Nat} (h : zbs code pc = 77 :: r) : decode code pc = .ok (.astore_n 2, 1) := by
  obtain ⟨g0, h0⟩ := zbs_u1 h
  show (Except.bind ((Decoder.instr pc).runAt code pc) fun x => Except.ok (x.1, x.2 - pc)) = _
  have e : (Decoder.instr pc).runAt code pc = .ok (.astore_n 2, pc + 1) := by
    show (Except.bind ((Reader.u1 : Decoder Nat) code (pc)) _) = _
    rw [g0]
    rfl
  rw [e]
  show Except.ok (_, pc + 1 - pc) = _
  rw [show pc + 1 - pc = 1 by omega]
theorem zd_78 {code : ByteArray} {pc : Nat} {r : List Nat} (h : zbs code pc = 78 :: r) : decode code pc = .ok (.astore_n 3, 1) := by
  obtain ⟨g0, h0⟩ := zbs_u1 h
  show (Except.bind ((Decoder.instr pc).runAt code pc) fun x => Except.ok (x.1, x.2 - pc)) = _
  have e : (Decoder.instr pc).runAt code pc = .ok (.astore_n 3, pc + 1) := by
    show (Except.bind ((Reader.u1 : Decoder Nat) code (pc)) _) = _
    rw [g0]
    rfl
  rw [e]
  show Except.ok (_, pc + 1 - pc) = _
  rw [show pc + 1 - pc = 1 by omega]
theorem zd_79 {code : ByteArray} {pc : Nat} {r : List Nat} (h : zbs code pc = 79 :: r) : decode code pc = .ok (.iastore, 1) := by
  obtain ⟨g0, h0⟩ := zbs_u1 h
  show (Except.bind ((Decoder.instr pc).runAt code pc) fun x => Except.ok (x.1, x.2 - pc)) = _
  have e : (Decoder.instr pc).runAt code pc = .ok (.iastore, pc + 1) := by
    show (Except.bind ((Reader.u1 : Decoder Nat) code (pc)) _) = _
    rw [g0]
    rfl
  rw [e]
  show Except.ok (_, pc + 1 - pc) = _
  rw [show pc + 1 - pc = 1 by omega]
theorem zd_83 {code : ByteArray} {pc : Nat} {r : List Nat} (h : zbs code pc = 83 :: r) : decode code pc = .ok (.aastore, 1) := by
  obtain ⟨g0, h0⟩ := zbs_u1 h
  show (Except.bind ((Decoder.instr pc).runAt code pc) fun x => Except.ok (x.1, x.2 - pc)) = _
  have e : (Decoder.instr pc).runAt code pc = .ok (.aastore, pc + 1) := by
    show (Except.bind ((Reader.u1 : Decoder Nat) code (pc)) _) = _
    rw [g0]
    rfl
  rw [e]
  show Except.ok (_, pc + 1 - pc) = _
  rw [show pc + 1 - pc = 1 by omega]
theorem zd_84 {code : ByteArray} {pc : Nat} {r : List Nat} (h : zbs code pc = 84 :: r) : decode code pc = .ok (.bastore, 1) := by
  obtain ⟨g0, h0⟩ := zbs_u1 h
  show (Except.bind ((Decoder.instr pc).runAt code pc) fun x => Except.ok (x.1, x.2 - pc)) = _
  have e : (Decoder.instr pc).runAt code pc = .ok (.bastore, pc + 1) := by
    show (Except.bind ((Reader.u1 : Decoder Nat) code (pc)) _) = _
    rw [g0]
    rfl
  rw [e]
  show Except.ok (_, pc + 1 - pc) = _
  rw [show pc + 1 - pc = 1 by omega]
theorem zd_87 {code : ByteArray} {pc : Nat} {r : List Nat} (h : zbs code pc = 87 :: r) : decode code pc = .ok (.pop, 1) := by
  obtain ⟨g0, h0⟩ := zbs_u1 h
  show (Except.bind ((Decoder.instr pc).runAt code pc) fun x => Except.ok (x.1, x.2 - pc)) = _
  have e : (Decoder.instr pc).runAt code pc = .ok (.pop, pc + 1) := by
    show (Except.bind ((Reader.u1 : Decoder Nat) code (pc)) _) = _
    rw [g0]
    rfl
  rw [e]
  show Except.ok (_, pc + 1 - pc) = _
  rw [show pc + 1 - pc = 1 by omega]
theorem zd_88 {code : ByteArray} {pc : Nat} {r : List Nat} (h : zbs code pc = 88 :: r) : decode code pc = .ok (.pop2, 1) := by
  obtain ⟨g0, h0⟩ := zbs_u1 h
  show (Except.bind ((Decoder.instr pc).runAt code pc) fun x => Except.ok (x.1, x.2 - pc)) = _
  have e : (Decoder.instr pc).runAt code pc = .ok (.pop2, pc + 1) := by
    show (Except.bind ((Reader.u1 : Decoder Nat) code (pc)) _) = _
    rw [g0]
    rfl
  rw [e]
  show Except.ok (_, pc + 1 - pc) = _
  rw [show pc + 1 - pc = 1 by omega]
theorem zd_89 {code : ByteArray} {pc : Nat} {r : List Nat} (h : zbs code pc = 89 :: r) : decode code pc = .ok (.dup, 1) := by
  obtain ⟨g0, h0⟩ := zbs_u1 h
  show (Except.bind ((Decoder.instr pc).runAt code pc) fun x => Except.ok (x.1, x.2 - pc)) = _
  have e : (Decoder.instr pc).runAt code pc = .ok (.dup, pc + 1) := by
    show (Except.bind ((Reader.u1 : Decoder Nat) code (pc)) _) = _
    rw [g0]
    rfl
  rw [e]
  show Except.ok (_, pc + 1 - pc) = _
  rw [show pc + 1 - pc = 1 by omega]
theorem zd_90 {code : ByteArray} {pc : Nat} {r : List Nat} (h : zbs code pc = 90 :: r) : decode code pc = .ok (.dup_x1, 1) := by
  obtain ⟨g0, h0⟩ := zbs_u1 h
  show (Except.bind ((Decoder.instr pc).runAt code pc) fun x => Except.ok (x.1, x.2 - pc)) = _
  have e : (Decoder.instr pc).runAt code pc = .ok (.dup_x1, pc + 1) := by
    show (Except.bind ((Reader.u1 : Decoder Nat) code (pc)) _) = _
    rw [g0]
    rfl
  rw [e]
  show Except.ok (_, pc + 1 - pc) = _
  rw [show pc + 1 - pc = 1 by omega]
theorem zd_92 {code : ByteArray} {pc : Nat} {r : List Nat} (h : zbs code pc = 92 :: r) : decode code pc = .ok (.dup2, 1) := by
  obtain ⟨g0, h0⟩ := zbs_u1 h
  show (Except.bind ((Decoder.instr pc).runAt code pc) fun x => Except.ok (x.1, x.2 - pc)) = _
  have e : (Decoder.instr pc).runAt code pc = .ok (.dup2, pc + 1) := by
    show (Except.bind ((Reader.u1 : Decoder Nat) code (pc)) _) = _
    rw [g0]
    rfl
  rw [e]
  show Except.ok (_, pc + 1 - pc) = _
  rw [show pc + 1 - pc = 1 by omega]
theorem zd_96 {code : ByteArray} {pc : Nat} {r : List Nat} (h : zbs code pc = 96 :: r) : decode code pc = .ok (.iadd, 1) := by
  obtain ⟨g0, h0⟩ := zbs_u1 h
  show (Except.bind ((Decoder.instr pc).runAt code pc) fun x => Except.ok (x.1, x.2 - pc)) = _
  have e : (Decoder.instr pc).runAt code pc = .ok (.iadd, pc + 1) := by
    show (Except.bind ((Reader.u1 : Decoder Nat) code (pc)) _) = _
    rw [g0]
    rfl
  rw [e]
  show Except.ok (_, pc + 1 - pc) = _
  rw [show pc + 1 - pc = 1 by omega]
theorem zd_97 {code : ByteArray} {pc : Nat} {r : List Nat} (h : zbs code pc = 97 :: r) : decode code pc = .ok (.ladd, 1) := by
  obtain ⟨g0, h0⟩ := zbs_u1 h
  show (Except.bind ((Decoder.instr pc).runAt code pc) fun x => Except.ok (x.1, x.2 - pc)) = _
  have e : (Decoder.instr pc).runAt code pc = .ok (.ladd, pc + 1) := by
    show (Except.bind ((Reader.u1 : Decoder Nat) code (pc)) _) = _
    rw [g0]
    rfl
  rw [e]
  show Except.ok (_, pc + 1 - pc) = _
  rw [show pc + 1 - pc = 1 by omega]
theorem zd_100 {code : ByteArray} {pc : Nat} {r : List Nat} (h : zbs code pc = 100 :: r) : decode code pc = .ok (.isub, 1) := by
  obtain ⟨g0, h0⟩ := zbs_u1 h
  show (Except.bind ((Decoder.instr pc).runAt code pc) fun x => Except.ok (x.1, x.2 - pc)) = _
  have e : (Decoder.instr pc).runAt code pc = .ok (.isub, pc + 1) := by
    show (Except.bind ((Reader.u1 : Decoder Nat) code (pc)) _) = _
    rw [g0]
    rfl
  rw [e]
  show Except.ok (_, pc + 1 - pc) = _
  rw [show pc + 1 - pc = 1 by omega]
theorem zd_101 {code : ByteArray} {pc : Nat} {r : List Nat} (h : zbs code pc = 101 :: r) : decode code pc = .ok (.lsub, 1) := by
  obtain ⟨g0, h0⟩ := zbs_u1 h
  show (Except.bind ((Decoder.instr pc).runAt code pc) fun x => Except.ok (x.1, x.2 - pc)) = _
  have e : (Decoder.instr pc).runAt code pc = .ok (.lsub, pc + 1) := by
    show (Except.bind ((Reader.u1 : Decoder Nat) code (pc)) _) = _
    rw [g0]
    rfl
  rw [e]
  show Except.ok (_, pc + 1 - pc) = _
  rw [show pc + 1 - pc = 1 by omega]
theorem zd_104 {code : ByteArray} {pc : Nat} {r : List Nat} (h : zbs code pc = 104 :: r) : decode code pc = .ok (.imul, 1) := by
  obtain ⟨g0, h0⟩ := zbs_u1 h
  show (Except.bind ((Decoder.instr pc).runAt code pc) fun x => Except.ok (x.1, x.2 - pc)) = _
  have e : (Decoder.instr pc).runAt code pc = .ok (.imul, pc + 1) := by
    show (Except.bind ((Reader.u1 : Decoder Nat) code (pc)) _) = _
    rw [g0]
    rfl
  rw [e]
  show Except.ok (_, pc + 1 - pc) = _
  rw [show pc + 1 - pc = 1 by omega]
theorem zd_105 {code : ByteArray} {pc : Nat} {r : List Nat} (h : zbs code pc = 105 :: r) : decode code pc = .ok (.lmul, 1) := by
  obtain ⟨g0, h0⟩ := zbs_u1 h
  show (Except.bind ((Decoder.instr pc).runAt code pc) fun x => Except.ok (x.1, x.2 - pc)) = _
  have e : (Decoder.instr pc).runAt code pc = .ok (.lmul, pc + 1) := by
    show (Except.bind ((Reader.u1 : Decoder Nat) code (pc)) _) = _
    rw [g0]
    rfl
  rw [e]
  show Except.ok (_, pc + 1 - pc) = _
  rw [show pc + 1 - pc = 1 by omega]
theorem zd_108 {code : ByteArray} {pc : Nat} {r : List Nat} (h : zbs code pc = 108 :: r) : decode code pc = .ok (.idiv, 1) := by
  obtain ⟨g0, h0⟩ := zbs_u1 h
  show (Except.bind ((Decoder.instr pc).runAt code pc) fun x => Except.ok (x.1, x.2 - pc)) = _
  have e : (Decoder.instr pc).runAt code pc = .ok (.idiv, pc + 1) := by
    show (Except.bind ((Reader.u1 : Decoder Nat) code (pc)) _) = _
    rw [g0]
    rfl
  rw [e]
  show Except.ok (_, pc + 1 - pc) = _
  rw [show pc + 1 - pc = 1 by omega]
theorem zd_109 {code : ByteArray} {pc : Nat} {r : List Nat} (h : zbs code pc = 109 :: r) : decode code pc = .ok (.ldiv, 1) := by
  obtain ⟨g0, h0⟩ := zbs_u1 h
  show (Except.bind ((Decoder.instr pc).runAt code pc) fun x => Except.ok (x.1, x.2 - pc)) = _
  have e : (Decoder.instr pc).runAt code pc = .ok (.ldiv, pc + 1) := by
    show (Except.bind ((Reader.u1 : Decoder Nat) code (pc)) _) = _
    rw [g0]
    rfl
  rw [e]
  show Except.ok (_, pc + 1 - pc) = _
  rw [show pc + 1 - pc = 1 by omega]
theorem zd_112 {code : ByteArray} {pc : Nat} {r : List Nat} (h : zbs code pc = 112 :: r) : decode code pc = .ok (.irem, 1) := by
  obtain ⟨g0, h0⟩ := zbs_u1 h
  show (Except.bind ((Decoder.instr pc).runAt code pc) fun x => Except.ok (x.1, x.2 - pc)) = _
  have e : (Decoder.instr pc).runAt code pc = .ok (.irem, pc + 1) := by
    show (Except.bind ((Reader.u1 : Decoder Nat) code (pc)) _) = _
    rw [g0]
    rfl
  rw [e]
  show Except.ok (_, pc + 1 - pc) = _
  rw [show pc + 1 - pc = 1 by omega]
theorem zd_113 {code : ByteArray} {pc : Nat} {r : List Nat} (h : zbs code pc = 113 :: r) : decode code pc = .ok (.lrem, 1) := by
  obtain ⟨g0, h0⟩ := zbs_u1 h
  show (Except.bind ((Decoder.instr pc).runAt code pc) fun x => Except.ok (x.1, x.2 - pc)) = _
  have e : (Decoder.instr pc).runAt code pc = .ok (.lrem, pc + 1) := by
    show (Except.bind ((Reader.u1 : Decoder Nat) code (pc)) _) = _
    rw [g0]
    rfl
  rw [e]
  show Except.ok (_, pc + 1 - pc) = _
  rw [show pc + 1 - pc = 1 by omega]
theorem zd_116 {code : ByteArray} {pc : Nat} {r : List Nat} (h : zbs code pc = 116 :: r) : decode code pc = .ok (.ineg, 1) := by
  obtain ⟨g0, h0⟩ := zbs_u1 h
  show (Except.bind ((Decoder.instr pc).runAt code pc) fun x => Except.ok (x.1, x.2 - pc)) = _
  have e : (Decoder.instr pc).runAt code pc = .ok (.ineg, pc + 1) := by
    show (Except.bind ((Reader.u1 : Decoder Nat) code (pc)) _) = _
    rw [g0]
    rfl
  rw [e]
  show Except.ok (_, pc + 1 - pc) = _
  rw [show pc + 1 - pc = 1 by omega]
theorem zd_117 {code : ByteArray} {pc : Nat} {r : List Nat} (h : zbs code pc = 117 :: r) : decode code pc = .ok (.lneg, 1) := by
  obtain ⟨g0, h0⟩ := zbs_u1 h
  show (Except.bind ((Decoder.instr pc).runAt code pc) fun x => Except.ok (x.1, x.2 - pc)) = _
  have e : (Decoder.instr pc).runAt code pc = .ok (.lneg, pc + 1) := by
    show (Except.bind ((Reader.u1 : Decoder Nat) code (pc)) _) = _
    rw [g0]
    rfl
  rw [e]
  show Except.ok (_, pc + 1 - pc) = _
  rw [show pc + 1 - pc = 1 by omega]
theorem zd_120 {code : ByteArray} {pc : Nat} {r : List Nat} (h : zbs code pc = 120 :: r) : decode code pc = .ok (.ishl, 1) := by
  obtain ⟨g0, h0⟩ := zbs_u1 h
  show (Except.bind ((Decoder.instr pc).runAt code pc) fun x => Except.ok (x.1, x.2 - pc)) = _
  have e : (Decoder.instr pc).runAt code pc = .ok (.ishl, pc + 1) := by
    show (Except.bind ((Reader.u1 : Decoder Nat) code (pc)) _) = _
    rw [g0]
    rfl
  rw [e]
  show Except.ok (_, pc + 1 - pc) = _
  rw [show pc + 1 - pc = 1 by omega]
theorem zd_121 {code : ByteArray} {pc : Nat} {r : List Nat} (h : zbs code pc = 121 :: r) : decode code pc = .ok (.lshl, 1) := by
  obtain ⟨g0, h0⟩ := zbs_u1 h
  show (Except.bind ((Decoder.instr pc).runAt code pc) fun x => Except.ok (x.1, x.2 - pc)) = _
  have e : (Decoder.instr pc).runAt code pc = .ok (.lshl, pc + 1) := by
    show (Except.bind ((Reader.u1 : Decoder Nat) code (pc)) _) = _
    rw [g0]
    rfl
  rw [e]
  show Except.ok (_, pc + 1 - pc) = _
  rw [show pc + 1 - pc = 1 by omega]
theorem zd_122 {code : ByteArray} {pc : Nat} {r : List Nat} (h : zbs code pc = 122 :: r) : decode code pc = .ok (.ishr, 1) := by
  obtain ⟨g0, h0⟩ := zbs_u1 h
  show (Except.bind ((Decoder.instr pc).runAt code pc) fun x => Except.ok (x.1, x.2 - pc)) = _
  have e : (Decoder.instr pc).runAt code pc = .ok (.ishr, pc + 1) := by
    show (Except.bind ((Reader.u1 : Decoder Nat) code (pc)) _) = _
    rw [g0]
    rfl
  rw [e]
  show Except.ok (_, pc + 1 - pc) = _
  rw [show pc + 1 - pc = 1 by omega]
theorem zd_123 {code : ByteArray} {pc : Nat} {r : List Nat} (h : zbs code pc = 123 :: r) : decode code pc = .ok (.lshr, 1) := by
  obtain ⟨g0, h0⟩ := zbs_u1 h
  show (Except.bind ((Decoder.instr pc).runAt code pc) fun x => Except.ok (x.1, x.2 - pc)) = _
  have e : (Decoder.instr pc).runAt code pc = .ok (.lshr, pc + 1) := by
    show (Except.bind ((Reader.u1 : Decoder Nat) code (pc)) _) = _
    rw [g0]
    rfl
  rw [e]
  show Except.ok (_, pc + 1 - pc) = _
  rw [show pc + 1 - pc = 1 by omega]
theorem zd_125 {code : ByteArray} {pc : Nat} {r : List Nat} (h : zbs code pc = 125 :: r) : decode code pc = .ok (.lushr, 1) := by
  obtain ⟨g0, h0⟩ := zbs_u1 h
  show (Except.bind ((Decoder.instr pc).runAt code pc) fun x => Except.ok (x.1, x.2 - pc)) = _
  have e : (Decoder.instr pc).runAt code pc = .ok (.lushr, pc + 1) := by
    show (Except.bind ((Reader.u1 : Decoder Nat) code (pc)) _) = _
    rw [g0]
    rfl
  rw [e]
  show Except.ok (_, pc + 1 - pc) = _
  rw [show pc + 1 - pc = 1 by omega]
theorem zd_126 {code : ByteArray} {pc : Nat} {r : List Nat} (h : zbs code pc = 126 :: r) : decode code pc = .ok (.iand, 1) := by
  obtain ⟨g0, h0⟩ := zbs_u1 h
  show (Except.bind ((Decoder.instr pc).runAt code pc) fun x => Except.ok (x.1, x.2 - pc)) = _
  have e : (Decoder.instr pc).runAt code pc = .ok (.iand, pc + 1) := by
    show (Except.bind ((Reader.u1 : Decoder Nat) code (pc)) _) = _
    rw [g0]
    rfl
  rw [e]
  show Except.ok (_, pc + 1 - pc) = _
  rw [show pc + 1 - pc = 1 by omega]
theorem zd_127 {code : ByteArray} {pc : Nat} {r : List Nat} (h : zbs code pc = 127 :: r) : decode code pc = .ok (.land, 1) := by
  obtain ⟨g0, h0⟩ := zbs_u1 h
  show (Except.bind ((Decoder.instr pc).runAt code pc) fun x => Except.ok (x.1, x.2 - pc)) = _
  have e : (Decoder.instr pc).runAt code pc = .ok (.land, pc + 1) := by
    show (Except.bind ((Reader.u1 : Decoder Nat) code (pc)) _) = _
    rw [g0]
    rfl
  rw [e]
  show Except.ok (_, pc + 1 - pc) = _
  rw [show pc + 1 - pc = 1 by omega]
theorem zd_128 {code : ByteArray} {pc : Nat} {r : List Nat} (h : zbs code pc = 128 :: r) : decode code pc = .ok (.ior, 1) := by
  obtain ⟨g0, h0⟩ := zbs_u1 h
  show (Except.bind ((Decoder.instr pc).runAt code pc) fun x => Except.ok (x.1, x.2 - pc)) = _
  have e : (Decoder.instr pc).runAt code pc = .ok (.ior, pc + 1) := by
    show (Except.bind ((Reader.u1 : Decoder Nat) code (pc)) _) = _
    rw [g0]
    rfl
  rw [e]
  show Except.ok (_, pc + 1 - pc) = _
  rw [show pc + 1 - pc = 1 by omega]
theorem zd_129 {code : ByteArray} {pc : Nat} {r : List Nat} (h : zbs code pc = 129 :: r) : decode code pc = .ok (.lor, 1) := by
  obtain ⟨g0, h0⟩ := zbs_u1 h
  show (Except.bind ((Decoder.instr pc).runAt code pc) fun x => Except.ok (x.1, x.2 - pc)) = _
  have e : (Decoder.instr pc).runAt code pc = .ok (.lor, pc + 1) := by
    show (Except.bind ((Reader.u1 : Decoder Nat) code (pc)) _) = _
    rw [g0]
    rfl
  rw [e]
  show Except.ok (_, pc + 1 - pc) = _
  rw [show pc + 1 - pc = 1 by omega]
theorem zd_130 {code : ByteArray} {pc : Nat} {r : List Nat} (h : zbs code pc = 130 :: r) : decode code pc = .ok (.ixor, 1) := by
  obtain ⟨g0, h0⟩ := zbs_u1 h
  show (Except.bind ((Decoder.instr pc).runAt code pc) fun x => Except.ok (x.1, x.2 - pc)) = _
  have e : (Decoder.instr pc).runAt code pc = .ok (.ixor, pc + 1) := by
    show (Except.bind ((Reader.u1 : Decoder Nat) code (pc)) _) = _
    rw [g0]
    rfl
  rw [e]
  show Except.ok (_, pc + 1 - pc) = _
  rw [show pc + 1 - pc = 1 by omega]
theorem zd_131 {code : ByteArray} {pc : Nat} {r : List Nat} (h : zbs code pc = 131 :: r) : decode code pc = .ok (.lxor, 1) := by
  obtain ⟨g0, h0⟩ := zbs_u1 h
  show (Except.bind ((Decoder.instr pc).runAt code pc) fun x => Except.ok (x.1, x.2 - pc)) = _
  have e : (Decoder.instr pc).runAt code pc = .ok (.lxor, pc + 1) := by
    show (Except.bind ((Reader.u1 : Decoder Nat) code (pc)) _) = _
    rw [g0]
    rfl
  rw [e]
  show Except.ok (_, pc + 1 - pc) = _
  rw [show pc + 1 - pc = 1 by omega]
theorem zd_132 {code : ByteArray} {pc a b : Nat} {r : List Nat} (h : zbs code pc = 132 :: a :: b :: r) : decode code pc = .ok (.iinc a (Reader.signed 8 b), 3) := by
  obtain ⟨g0, h0⟩ := zbs_u1 h
  obtain ⟨g1, h1⟩ := zbs_u1 h0
  have g2 := zbs_s1 h1
  show (Except.bind ((Decoder.instr pc).runAt code pc) fun x => Except.ok (x.1, x.2 - pc)) = _
  have e : (Decoder.instr pc).runAt code pc = .ok (.iinc a (Reader.signed 8 b), pc + 1 + 1 + 1) := by
    show (Except.bind ((Reader.u1 : Decoder Nat) code (pc)) _) = _
    rw [g0]
    show (Except.bind ((Reader.u1 : Decoder Nat) code (pc + 1)) _) = _
    rw [g1]
    show (Except.bind ((Reader.s1 : Decoder Int) code (pc + 1 + 1)) _) = _
    rw [g2]
    rfl
  rw [e]
  show Except.ok (_, pc + 1 + 1 + 1 - pc) = _
  rw [show pc + 1 + 1 + 1 - pc = 3 by omega]
theorem zd_133 {code : ByteArray} {pc : Nat} {r : List Nat} (h : zbs code pc = 133 :: r) : decode code pc = .ok (.i2l, 1) := by
  obtain ⟨g0, h0⟩ := zbs_u1 h
  show (Except.bind ((Decoder.instr pc).runAt code pc) fun x => Except.ok (x.1, x.2 - pc)) = _
  have e : (Decoder.instr pc).runAt code pc = .ok (.i2l, pc + 1) := by
    show (Except.bind ((Reader.u1 : Decoder Nat) code (pc)) _) = _
    rw [g0]
    rfl
  rw [e]
  show Except.ok (_, pc + 1 - pc) = _
  rw [show pc + 1 - pc = 1 by omega]
theorem zd_136 {code : ByteArray} {pc : Nat} {r : List Nat} (h : zbs code pc = 136 :: r) : decode code pc = .ok (.l2i, 1) := by
  obtain ⟨g0, h0⟩ := zbs_u1 h
  show (Except.bind ((Decoder.instr pc).runAt code pc) fun x => Except.ok (x.1, x.2 - pc)) = _
  have e : (Decoder.instr pc).runAt code pc = .ok (.l2i, pc + 1) := by
    show (Except.bind ((Reader.u1 : Decoder Nat) code (pc)) _) = _
    rw [g0]
    rfl
  rw [e]
  show Except.ok (_, pc + 1 - pc) = _
  rw [show pc + 1 - pc = 1 by omega]
theorem zd_145 {code : ByteArray} {pc : Nat} {r : List Nat} (h : zbs code pc = 145 :: r) : decode code pc = .ok (.i2b, 1) := by
  obtain ⟨g0, h0⟩ := zbs_u1 h
  show (Except.bind ((Decoder.instr pc).runAt code pc) fun x => Except.ok (x.1, x.2 - pc)) = _
  have e : (Decoder.instr pc).runAt code pc = .ok (.i2b, pc + 1) := by
    show (Except.bind ((Reader.u1 : Decoder Nat) code (pc)) _) = _
    rw [g0]
    rfl
  rw [e]
  show Except.ok (_, pc + 1 - pc) = _
  rw [show pc + 1 - pc = 1 by omega]
theorem zd_146 {code : ByteArray} {pc : Nat} {r : List Nat} (h : zbs code pc = 146 :: r) : decode code pc = .ok (.i2c, 1) := by
  obtain ⟨g0, h0⟩ := zbs_u1 h
  show (Except.bind ((Decoder.instr pc).runAt code pc) fun x => Except.ok (x.1, x.2 - pc)) = _
  have e : (Decoder.instr pc).runAt code pc = .ok (.i2c, pc + 1) := by
    show (Except.bind ((Reader.u1 : Decoder Nat) code (pc)) _) = _
    rw [g0]
    rfl
  rw [e]
  show Except.ok (_, pc + 1 - pc) = _
  rw [show pc + 1 - pc = 1 by omega]
theorem zd_148 {code : ByteArray} {pc : Nat} {r : List Nat} (h : zbs code pc = 148 :: r) : decode code pc = .ok (.lcmp, 1) := by
  obtain ⟨g0, h0⟩ := zbs_u1 h
  show (Except.bind ((Decoder.instr pc).runAt code pc) fun x => Except.ok (x.1, x.2 - pc)) = _
  have e : (Decoder.instr pc).runAt code pc = .ok (.lcmp, pc + 1) := by
    show (Except.bind ((Reader.u1 : Decoder Nat) code (pc)) _) = _
    rw [g0]
    rfl
  rw [e]
  show Except.ok (_, pc + 1 - pc) = _
  rw [show pc + 1 - pc = 1 by omega]
theorem zd_153 {code : ByteArray} {pc a b : Nat} {r : List Nat} (h : zbs code pc = 153 :: a :: b :: r) : decode code pc = .ok (.ifCond .eq (Reader.signed 16 (a * 256 + b)), 3) := by
  obtain ⟨g0, h0⟩ := zbs_u1 h
  have g1 := zbs_s2 h0
  show (Except.bind ((Decoder.instr pc).runAt code pc) fun x => Except.ok (x.1, x.2 - pc)) = _
  have e : (Decoder.instr pc).runAt code pc = .ok (.ifCond .eq (Reader.signed 16 (a * 256 + b)), pc + 1 + 1 + 1) := by
    show (Except.bind ((Reader.u1 : Decoder Nat) code (pc)) _) = _
    rw [g0]
    show (Except.bind ((Reader.s2 : Decoder Int) code (pc + 1)) _) = _
    rw [g1]
    rfl
  rw [e]
  show Except.ok (_, pc + 1 + 1 + 1 - pc) = _
  rw [show pc + 1 + 1 + 1 - pc = 3 by omega]
theorem zd_154 {code : ByteArray} {pc a b : Nat} {r : List Nat} (h : zbs code pc = 154 :: a :: b :: r) : decode code pc = .ok (.ifCond .ne (Reader.signed 16 (a * 256 + b)), 3) := by
  obtain ⟨g0, h0⟩ := zbs_u1 h
  have g1 := zbs_s2 h0
  show (Except.bind ((Decoder.instr pc).runAt code pc) fun x => Except.ok (x.1, x.2 - pc)) = _
  have e : (Decoder.instr pc).runAt code pc = .ok (.ifCond .ne (Reader.signed 16 (a * 256 + b)), pc + 1 + 1 + 1) := by
    show (Except.bind ((Reader.u1 : Decoder Nat) code (pc)) _) = _
    rw [g0]
    show (Except.bind ((Reader.s2 : Decoder Int) code (pc + 1)) _) = _
    rw [g1]
    rfl
  rw [e]
  show Except.ok (_, pc + 1 + 1 + 1 - pc) = _
  rw [show pc + 1 + 1 + 1 - pc = 3 by omega]
theorem zd_155 {code : ByteArray} {pc a b : Nat} {r : List Nat} (h : zbs code pc = 155 :: a :: b :: r) : decode code pc = .ok (.ifCond .lt (Reader.signed 16 (a * 256 + b)), 3) := by
  obtain ⟨g0, h0⟩ := zbs_u1 h
  have g1 := zbs_s2 h0
  show (Except.bind ((Decoder.instr pc).runAt code pc) fun x => Except.ok (x.1, x.2 - pc)) = _
  have e : (Decoder.instr pc).runAt code pc = .ok (.ifCond .lt (Reader.signed 16 (a * 256 + b)), pc + 1 + 1 + 1) := by
    show (Except.bind ((Reader.u1 : Decoder Nat) code (pc)) _) = _
    rw [g0]
    show (Except.bind ((Reader.s2 : Decoder Int) code (pc + 1)) _) = _
    rw [g1]
    rfl
  rw [e]
  show Except.ok (_, pc + 1 + 1 + 1 - pc) = _
  rw [show pc + 1 + 1 + 1 - pc = 3 by omega]
theorem zd_156 {code : ByteArray} {pc a b : Nat} {r : List Nat} (h : zbs code pc = 156 :: a :: b :: r) : decode code pc = .ok (.ifCond .ge (Reader.signed 16 (a * 256 + b)), 3) := by
  obtain ⟨g0, h0⟩ := zbs_u1 h
  have g1 := zbs_s2 h0
  show (Except.bind ((Decoder.instr pc).runAt code pc) fun x => Except.ok (x.1, x.2 - pc)) = _
  have e : (Decoder.instr pc).runAt code pc = .ok (.ifCond .ge (Reader.signed 16 (a * 256 + b)), pc + 1 + 1 + 1) := by
    show (Except.bind ((Reader.u1 : Decoder Nat) code (pc)) _) = _
    rw [g0]
    show (Except.bind ((Reader.s2 : Decoder Int) code (pc + 1)) _) = _
    rw [g1]
    rfl
  rw [e]
  show Except.ok (_, pc + 1 + 1 + 1 - pc) = _
  rw [show pc + 1 + 1 + 1 - pc = 3 by omega]
theorem zd_157 {code : ByteArray} {pc a b : Nat} {r : List Nat} (h : zbs code pc = 157 :: a :: b :: r) : decode code pc = .ok (.ifCond .gt (Reader.signed 16 (a * 256 + b)), 3) := by
  obtain ⟨g0, h0⟩ := zbs_u1 h
  have g1 := zbs_s2 h0
  show (Except.bind ((Decoder.instr pc).runAt code pc) fun x => Except.ok (x.1, x.2 - pc)) = _
  have e : (Decoder.instr pc).runAt code pc = .ok (.ifCond .gt (Reader.signed 16 (a * 256 + b)), pc + 1 + 1 + 1) := by
    show (Except.bind ((Reader.u1 : Decoder Nat) code (pc)) _) = _
    rw [g0]
    show (Except.bind ((Reader.s2 : Decoder Int) code (pc + 1)) _) = _
    rw [g1]
    rfl
  rw [e]
  show Except.ok (_, pc + 1 + 1 + 1 - pc) = _
  rw [show pc + 1 + 1 + 1 - pc = 3 by omega]
theorem zd_158 {code : ByteArray} {pc a b : Nat} {r : List Nat} (h : zbs code pc = 158 :: a :: b :: r) : decode code pc = .ok (.ifCond .le (Reader.signed 16 (a * 256 + b)), 3) := by
  obtain ⟨g0, h0⟩ := zbs_u1 h
  have g1 := zbs_s2 h0
  show (Except.bind ((Decoder.instr pc).runAt code pc) fun x => Except.ok (x.1, x.2 - pc)) = _
  have e : (Decoder.instr pc).runAt code pc = .ok (.ifCond .le (Reader.signed 16 (a * 256 + b)), pc + 1 + 1 + 1) := by
    show (Except.bind ((Reader.u1 : Decoder Nat) code (pc)) _) = _
    rw [g0]
    show (Except.bind ((Reader.s2 : Decoder Int) code (pc + 1)) _) = _
    rw [g1]
    rfl
  rw [e]
  show Except.ok (_, pc + 1 + 1 + 1 - pc) = _
  rw [show pc + 1 + 1 + 1 - pc = 3 by omega]
theorem zd_159 {code : ByteArray} {pc a b : Nat} {r : List Nat} (h : zbs code pc = 159 :: a :: b :: r) : decode code pc = .ok (.if_icmp .eq (Reader.signed 16 (a * 256 + b)), 3) := by
  obtain ⟨g0, h0⟩ := zbs_u1 h
  have g1 := zbs_s2 h0
  show (Except.bind ((Decoder.instr pc).runAt code pc) fun x => Except.ok (x.1, x.2 - pc)) = _
  have e : (Decoder.instr pc).runAt code pc = .ok (.if_icmp .eq (Reader.signed 16 (a * 256 + b)), pc + 1 + 1 + 1) := by
    show (Except.bind ((Reader.u1 : Decoder Nat) code (pc)) _) = _
    rw [g0]
    show (Except.bind ((Reader.s2 : Decoder Int) code (pc + 1)) _) = _
    rw [g1]
    rfl
  rw [e]
  show Except.ok (_, pc + 1 + 1 + 1 - pc) = _
  rw [show pc + 1 + 1 + 1 - pc = 3 by omega]
theorem zd_160 {code : ByteArray} {pc a b : Nat} {r : List Nat} (h : zbs code pc = 160 :: a :: b :: r) : decode code pc = .ok (.if_icmp .ne (Reader.signed 16 (a * 256 + b)), 3) := by
  obtain ⟨g0, h0⟩ := zbs_u1 h
  have g1 := zbs_s2 h0
  show (Except.bind ((Decoder.instr pc).runAt code pc) fun x => Except.ok (x.1, x.2 - pc)) = _
  have e : (Decoder.instr pc).runAt code pc = .ok (.if_icmp .ne (Reader.signed 16 (a * 256 + b)), pc + 1 + 1 + 1) := by
    show (Except.bind ((Reader.u1 : Decoder Nat) code (pc)) _) = _
    rw [g0]
    show (Except.bind ((Reader.s2 : Decoder Int) code (pc + 1)) _) = _
    rw [g1]
    rfl
  rw [e]
  show Except.ok (_, pc + 1 + 1 + 1 - pc) = _
  rw [show pc + 1 + 1 + 1 - pc = 3 by omega]
theorem zd_161 {code : ByteArray} {pc a b : Nat} {r : List Nat} (h : zbs code pc = 161 :: a :: b :: r) : decode code pc = .ok (.if_icmp .lt (Reader.signed 16 (a * 256 + b)), 3) := by
  obtain ⟨g0, h0⟩ := zbs_u1 h
  have g1 := zbs_s2 h0
  show (Except.bind ((Decoder.instr pc).runAt code pc) fun x => Except.ok (x.1, x.2 - pc)) = _
  have e : (Decoder.instr pc).runAt code pc = .ok (.if_icmp .lt (Reader.signed 16 (a * 256 + b)), pc + 1 + 1 + 1) := by
    show (Except.bind ((Reader.u1 : Decoder Nat) code (pc)) _) = _
    rw [g0]
    show (Except.bind ((Reader.s2 : Decoder Int) code (pc + 1)) _) = _
    rw [g1]
    rfl
  rw [e]
  show Except.ok (_, pc + 1 + 1 + 1 - pc) = _
  rw [show pc + 1 + 1 + 1 - pc = 3 by omega]
theorem zd_162 {code : ByteArray} {pc a b : Nat} {r : List Nat} (h : zbs code pc = 162 :: a :: b :: r) : decode code pc = .ok (.if_icmp .ge (Reader.signed 16 (a * 256 + b)), 3) := by
  obtain ⟨g0, h0⟩ := zbs_u1 h
  have g1 := zbs_s2 h0
  show (Except.bind ((Decoder.instr pc).runAt code pc) fun x => Except.ok (x.1, x.2 - pc)) = _
  have e : (Decoder.instr pc).runAt code pc = .ok (.if_icmp .ge (Reader.signed 16 (a * 256 + b)), pc + 1 + 1 + 1) := by
    show (Except.bind ((Reader.u1 : Decoder Nat) code (pc)) _) = _
    rw [g0]
    show (Except.bind ((Reader.s2 : Decoder Int) code (pc + 1)) _) = _
    rw [g1]
    rfl
  rw [e]
  show Except.ok (_, pc + 1 + 1 + 1 - pc) = _
  rw [show pc + 1 + 1 + 1 - pc = 3 by omega]
theorem zd_163 {code : ByteArray} {pc a b : Nat} {r : List Nat} (h : zbs code pc = 163 :: a :: b :: r) : decode code pc = .ok (.if_icmp .gt (Reader.signed 16 (a * 256 + b)), 3) := by
  obtain ⟨g0, h0⟩ := zbs_u1 h
  have g1 := zbs_s2 h0
  show (Except.bind ((Decoder.instr pc).runAt code pc) fun x => Except.ok (x.1, x.2 - pc)) = _
  have e : (Decoder.instr pc).runAt code pc = .ok (.if_icmp .gt (Reader.signed 16 (a * 256 + b)), pc + 1 + 1 + 1) := by
    show (Except.bind ((Reader.u1 : Decoder Nat) code (pc)) _) = _
    rw [g0]
    show (Except.bind ((Reader.s2 : Decoder Int) code (pc + 1)) _) = _
    rw [g1]
    rfl
  rw [e]
  show Except.ok (_, pc + 1 + 1 + 1 - pc) = _
  rw [show pc + 1 + 1 + 1 - pc = 3 by omega]
theorem zd_164 {code : ByteArray} {pc a b : Nat} {r : List Nat} (h : zbs code pc = 164 :: a :: b :: r) : decode code pc = .ok (.if_icmp .le (Reader.signed 16 (a * 256 + b)), 3) := by
  obtain ⟨g0, h0⟩ := zbs_u1 h
  have g1 := zbs_s2 h0
  show (Except.bind ((Decoder.instr pc).runAt code pc) fun x => Except.ok (x.1, x.2 - pc)) = _
  have e : (Decoder.instr pc).runAt code pc = .ok (.if_icmp .le (Reader.signed 16 (a * 256 + b)), pc + 1 + 1 + 1) := by
    show (Except.bind ((Reader.u1 : Decoder Nat) code (pc)) _) = _
    rw [g0]
    show (Except.bind ((Reader.s2 : Decoder Int) code (pc + 1)) _) = _
    rw [g1]
    rfl
  rw [e]
  show Except.ok (_, pc + 1 + 1 + 1 - pc) = _
  rw [show pc + 1 + 1 + 1 - pc = 3 by omega]
theorem zd_167 {code : ByteArray} {pc a b : Nat} {r : List Nat} (h : zbs code pc = 167 :: a :: b :: r) : decode code pc = .ok (.goto (Reader.signed 16 (a * 256 + b)), 3) := by
  obtain ⟨g0, h0⟩ := zbs_u1 h
  have g1 := zbs_s2 h0
  show (Except.bind ((Decoder.instr pc).runAt code pc) fun x => Except.ok (x.1, x.2 - pc)) = _
  have e : (Decoder.instr pc).runAt code pc = .ok (.goto (Reader.signed 16 (a * 256 + b)), pc + 1 + 1 + 1) := by
    show (Except.bind ((Reader.u1 : Decoder Nat) code (pc)) _) = _
    rw [g0]
    show (Except.bind ((Reader.s2 : Decoder Int) code (pc + 1)) _) = _
    rw [g1]
    rfl
  rw [e]
  show Except.ok (_, pc + 1 + 1 + 1 - pc) = _
  rw [show pc + 1 + 1 + 1 - pc = 3 by omega]
theorem zd_172 {code : ByteArray} {pc : Nat} {r : List Nat} (h : zbs code pc = 172 :: r) : decode code pc = .ok (.ireturn, 1) := by
  obtain ⟨g0, h0⟩ := zbs_u1 h
  show (Except.bind ((Decoder.instr pc).runAt code pc) fun x => Except.ok (x.1, x.2 - pc)) = _
  have e : (Decoder.instr pc).runAt code pc = .ok (.ireturn, pc + 1) := by
    show (Except.bind ((Reader.u1 : Decoder Nat) code (pc)) _) = _
    rw [g0]
    rfl
  rw [e]
  show Except.ok (_, pc + 1 - pc) = _
  rw [show pc + 1 - pc = 1 by omega]
theorem zd_173 {code : ByteArray} {pc : Nat} {r : List Nat} (h : zbs code pc = 173 :: r) : decode code pc = .ok (.lreturn, 1) := by
  obtain ⟨g0, h0⟩ := zbs_u1 h
  show (Except.bind ((Decoder.instr pc).runAt code pc) fun x => Except.ok (x.1, x.2 - pc)) = _
  have e : (Decoder.instr pc).runAt code pc = .ok (.lreturn, pc + 1) := by
    show (Except.bind ((Reader.u1 : Decoder Nat) code (pc)) _) = _
    rw [g0]
    rfl
  rw [e]
  show Except.ok (_, pc + 1 - pc) = _
  rw [show pc + 1 - pc = 1 by omega]
theorem zd_176 {code : ByteArray} {pc : Nat} {r : List Nat} (h : zbs code pc = 176 :: r) : decode code pc = .ok (.areturn, 1) := by
  obtain ⟨g0, h0⟩ := zbs_u1 h
  show (Except.bind ((Decoder.instr pc).runAt code pc) fun x => Except.ok (x.1, x.2 - pc)) = _
  have e : (Decoder.instr pc).runAt code pc = .ok (.areturn, pc + 1) := by
    show (Except.bind ((Reader.u1 : Decoder Nat) code (pc)) _) = _
    rw [g0]
    rfl
  rw [e]
  show Except.ok (_, pc + 1 - pc) = _
  rw [show pc + 1 - pc = 1 by omega]
theorem zd_177 {code : ByteArray} {pc : Nat} {r : List Nat} (h : zbs code pc = 177 :: r) : decode code pc = .ok (.return_, 1) := by
  obtain ⟨g0, h0⟩ := zbs_u1 h
  show (Except.bind ((Decoder.instr pc).runAt code pc) fun x => Except.ok (x.1, x.2 - pc)) = _
  have e : (Decoder.instr pc).runAt code pc = .ok (.return_, pc + 1) := by
    show (Except.bind ((Reader.u1 : Decoder Nat) code (pc)) _) = _
    rw [g0]
    rfl
  rw [e]
  show Except.ok (_, pc + 1 - pc) = _
  rw [show pc + 1 - pc = 1 by omega]
theorem zd_178 {code : ByteArray} {pc a b : Nat} {r : List Nat} (h : zbs code pc = 178 :: a :: b :: r) : decode code pc = .ok (.getstatic (a * 256 + b), 3) := by
  obtain ⟨g0, h0⟩ := zbs_u1 h
  have g1 := zbs_u2 h0
  show (Except.bind ((Decoder.instr pc).runAt code pc) fun x => Except.ok (x.1, x.2 - pc)) = _
  have e : (Decoder.instr pc).runAt code pc = .ok (.getstatic (a * 256 + b), pc + 1 + 1 + 1) := by
    show (Except.bind ((Reader.u1 : Decoder Nat) code (pc)) _) = _
    rw [g0]
    show (Except.bind ((Reader.u2 : Decoder Nat) code (pc + 1)) _) = _
    rw [g1]
    rfl
  rw [e]
  show Except.ok (_, pc + 1 + 1 + 1 - pc) = _
  rw [show pc + 1 + 1 + 1 - pc = 3 by omega]
theorem zd_180 {code : ByteArray} {pc a b : Nat} {r : List Nat} (h : zbs code pc = 180 :: a :: b :: r) : decode code pc = .ok (.getfield (a * 256 + b), 3) := by
  obtain ⟨g0, h0⟩ := zbs_u1 h
  have g1 := zbs_u2 h0
  show (Except.bind ((Decoder.instr pc).runAt code pc) fun x => Except.ok (x.1, x.2 - pc)) = _
  have e : (Decoder.instr pc).runAt code pc = .ok (.getfield (a * 256 + b), pc + 1 + 1 + 1) := by
    show (Except.bind ((Reader.u1 : Decoder Nat) code (pc)) _) = _
    rw [g0]
    show (Except.bind ((Reader.u2 : Decoder Nat) code (pc + 1)) _) = _
    rw [g1]
    rfl
  rw [e]
  show Except.ok (_, pc + 1 + 1 + 1 - pc) = _
  rw [show pc + 1 + 1 + 1 - pc = 3 by omega]
theorem zd_181 {code : ByteArray} {pc a b : Nat} {r : List Nat} (h : zbs code pc = 181 :: a :: b :: r) : decode code pc = .ok (.putfield (a * 256 + b), 3) := by
  obtain ⟨g0, h0⟩ := zbs_u1 h
  have g1 := zbs_u2 h0
  show (Except.bind ((Decoder.instr pc).runAt code pc) fun x => Except.ok (x.1, x.2 - pc)) = _
  have e : (Decoder.instr pc).runAt code pc = .ok (.putfield (a * 256 + b), pc + 1 + 1 + 1) := by
    show (Except.bind ((Reader.u1 : Decoder Nat) code (pc)) _) = _
    rw [g0]
    show (Except.bind ((Reader.u2 : Decoder Nat) code (pc + 1)) _) = _
    rw [g1]
    rfl
  rw [e]
  show Except.ok (_, pc + 1 + 1 + 1 - pc) = _
  rw [show pc + 1 + 1 + 1 - pc = 3 by omega]
theorem zd_182 {code : ByteArray} {pc a b : Nat} {r : List Nat} (h : zbs code pc = 182 :: a :: b :: r) : decode code pc = .ok (.invokevirtual (a * 256 + b), 3) := by
  obtain ⟨g0, h0⟩ := zbs_u1 h
  have g1 := zbs_u2 h0
  show (Except.bind ((Decoder.instr pc).runAt code pc) fun x => Except.ok (x.1, x.2 - pc)) = _
  have e : (Decoder.instr pc).runAt code pc = .ok (.invokevirtual (a * 256 + b), pc + 1 + 1 + 1) := by
    show (Except.bind ((Reader.u1 : Decoder Nat) code (pc)) _) = _
    rw [g0]
    show (Except.bind ((Reader.u2 : Decoder Nat) code (pc + 1)) _) = _
    rw [g1]
    rfl
  rw [e]
  show Except.ok (_, pc + 1 + 1 + 1 - pc) = _
  rw [show pc + 1 + 1 + 1 - pc = 3 by omega]
theorem zd_183 {code : ByteArray} {pc a b : Nat} {r : List Nat} (h : zbs code pc = 183 :: a :: b :: r) : decode code pc = .ok (.invokespecial (a * 256 + b), 3) := by
  obtain ⟨g0, h0⟩ := zbs_u1 h
  have g1 := zbs_u2 h0
  show (Except.bind ((Decoder.instr pc).runAt code pc) fun x => Except.ok (x.1, x.2 - pc)) = _
  have e : (Decoder.instr pc).runAt code pc = .ok (.invokespecial (a * 256 + b), pc + 1 + 1 + 1) := by
    show (Except.bind ((Reader.u1 : Decoder Nat) code (pc)) _) = _
    rw [g0]
    show (Except.bind ((Reader.u2 : Decoder Nat) code (pc + 1)) _) = _
    rw [g1]
    rfl
  rw [e]
  show Except.ok (_, pc + 1 + 1 + 1 - pc) = _
  rw [show pc + 1 + 1 + 1 - pc = 3 by omega]
theorem zd_184 {code : ByteArray} {pc a b : Nat} {r : List Nat} (h : zbs code pc = 184 :: a :: b :: r) : decode code pc = .ok (.invokestatic (a * 256 + b), 3) := by
  obtain ⟨g0, h0⟩ := zbs_u1 h
  have g1 := zbs_u2 h0
  show (Except.bind ((Decoder.instr pc).runAt code pc) fun x => Except.ok (x.1, x.2 - pc)) = _
  have e : (Decoder.instr pc).runAt code pc = .ok (.invokestatic (a * 256 + b), pc + 1 + 1 + 1) := by
    show (Except.bind ((Reader.u1 : Decoder Nat) code (pc)) _) = _
    rw [g0]
    show (Except.bind ((Reader.u2 : Decoder Nat) code (pc + 1)) _) = _
    rw [g1]
    rfl
  rw [e]
  show Except.ok (_, pc + 1 + 1 + 1 - pc) = _
  rw [show pc + 1 + 1 + 1 - pc = 3 by omega]
theorem zd_187 {code : ByteArray} {pc a b : Nat} {r : List Nat} (h : zbs code pc = 187 :: a :: b :: r) : decode code pc = .ok (.new (a * 256 + b), 3) := by
  obtain ⟨g0, h0⟩ := zbs_u1 h
  have g1 := zbs_u2 h0
  show (Except.bind ((Decoder.instr pc).runAt code pc) fun x => Except.ok (x.1, x.2 - pc)) = _
  have e : (Decoder.instr pc).runAt code pc = .ok (.new (a * 256 + b), pc + 1 + 1 + 1) := by
    show (Except.bind ((Reader.u1 : Decoder Nat) code (pc)) _) = _
    rw [g0]
    show (Except.bind ((Reader.u2 : Decoder Nat) code (pc + 1)) _) = _
    rw [g1]
    rfl
  rw [e]
  show Except.ok (_, pc + 1 + 1 + 1 - pc) = _
  rw [show pc + 1 + 1 + 1 - pc = 3 by omega]
theorem zd_188_4 {code : ByteArray} {pc : Nat} {r : List Nat} (h : zbs code pc = 188 :: 4 :: r) : decode code pc = .ok (.newarray .boolean, 2) := by
  obtain ⟨g0, h0⟩ := zbs_u1 h
  obtain ⟨g1, h1⟩ := zbs_u1 h0
  show (Except.bind ((Decoder.instr pc).runAt code pc) fun x => Except.ok (x.1, x.2 - pc)) = _
  have e : (Decoder.instr pc).runAt code pc = .ok (.newarray .boolean, pc + 1 + 1) := by
    show (Except.bind ((Reader.u1 : Decoder Nat) code (pc)) _) = _
    rw [g0]
    show (Except.bind ((Reader.u1 : Decoder Nat) code (pc + 1)) _) = _
    rw [g1]
    rfl
  rw [e]
  show Except.ok (_, pc + 1 + 1 - pc) = _
  rw [show pc + 1 + 1 - pc = 2 by omega]
theorem zd_188_5 {code : ByteArray} {pc : Nat} {r : List Nat} (h : zbs code pc = 188 :: 5 :: r) : decode code pc = .ok (.newarray .char, 2) := by
  obtain ⟨g0, h0⟩ := zbs_u1 h
  obtain ⟨g1, h1⟩ := zbs_u1 h0
  show (Except.bind ((Decoder.instr pc).runAt code pc) fun x => Except.ok (x.1, x.2 - pc)) = _
  have e : (Decoder.instr pc).runAt code pc = .ok (.newarray .char, pc + 1 + 1) := by
    show (Except.bind ((Reader.u1 : Decoder Nat) code (pc)) _) = _
    rw [g0]
    show (Except.bind ((Reader.u1 : Decoder Nat) code (pc + 1)) _) = _
    rw [g1]
    rfl
  rw [e]
  show Except.ok (_, pc + 1 + 1 - pc) = _
  rw [show pc + 1 + 1 - pc = 2 by omega]
theorem zd_188_6 {code : ByteArray} {pc : Nat} {r : List Nat} (h : zbs code pc = 188 :: 6 :: r) : decode code pc = .ok (.newarray .float, 2) := by
  obtain ⟨g0, h0⟩ := zbs_u1 h
  obtain ⟨g1, h1⟩ := zbs_u1 h0
  show (Except.bind ((Decoder.instr pc).runAt code pc) fun x => Except.ok (x.1, x.2 - pc)) = _
  have e : (Decoder.instr pc).runAt code pc = .ok (.newarray .float, pc + 1 + 1) := by
    show (Except.bind ((Reader.u1 : Decoder Nat) code (pc)) _) = _
    rw [g0]
    show (Except.bind ((Reader.u1 : Decoder Nat) code (pc + 1)) _) = _
    rw [g1]
    rfl
  rw [e]
  show Except.ok (_, pc + 1 + 1 - pc) = _
  rw [show pc + 1 + 1 - pc = 2 by omega]
theorem zd_188_7 {code : ByteArray} {pc : Nat} {r : List Nat} (h : zbs code pc = 188 :: 7 :: r) : decode code pc = .ok (.newarray .double, 2) := by
  obtain ⟨g0, h0⟩ := zbs_u1 h
  obtain ⟨g1, h1⟩ := zbs_u1 h0
  show (Except.bind ((Decoder.instr pc).runAt code pc) fun x => Except.ok (x.1, x.2 - pc)) = _
  have e : (Decoder.instr pc).runAt code pc = .ok (.newarray .double, pc + 1 + 1) := by
    show (Except.bind ((Reader.u1 : Decoder Nat) code (pc)) _) = _
    rw [g0]
    show (Except.bind ((Reader.u1 : Decoder Nat) code (pc + 1)) _) = _
    rw [g1]
    rfl
  rw [e]
  show Except.ok (_, pc + 1 + 1 - pc) = _
  rw [show pc + 1 + 1 - pc = 2 by omega]
theorem zd_188_8 {code : ByteArray} {pc : Nat} {r : List Nat} (h : zbs code pc = 188 :: 8 :: r) : decode code pc = .ok (.newarray .byte, 2) := by
  obtain ⟨g0, h0⟩ := zbs_u1 h
  obtain ⟨g1, h1⟩ := zbs_u1 h0
  show (Except.bind ((Decoder.instr pc).runAt code pc) fun x => Except.ok (x.1, x.2 - pc)) = _
  have e : (Decoder.instr pc).runAt code pc = .ok (.newarray .byte, pc + 1 + 1) := by
    show (Except.bind ((Reader.u1 : Decoder Nat) code (pc)) _) = _
    rw [g0]
    show (Except.bind ((Reader.u1 : Decoder Nat) code (pc + 1)) _) = _
    rw [g1]
    rfl
  rw [e]
  show Except.ok (_, pc + 1 + 1 - pc) = _
  rw [show pc + 1 + 1 - pc = 2 by omega]
theorem zd_188_9 {code : ByteArray} {pc : Nat} {r : List Nat} (h : zbs code pc = 188 :: 9 :: r) : decode code pc = .ok (.newarray .short, 2) := by
  obtain ⟨g0, h0⟩ := zbs_u1 h
  obtain ⟨g1, h1⟩ := zbs_u1 h0
  show (Except.bind ((Decoder.instr pc).runAt code pc) fun x => Except.ok (x.1, x.2 - pc)) = _
  have e : (Decoder.instr pc).runAt code pc = .ok (.newarray .short, pc + 1 + 1) := by
    show (Except.bind ((Reader.u1 : Decoder Nat) code (pc)) _) = _
    rw [g0]
    show (Except.bind ((Reader.u1 : Decoder Nat) code (pc + 1)) _) = _
    rw [g1]
    rfl
  rw [e]
  show Except.ok (_, pc + 1 + 1 - pc) = _
  rw [show pc + 1 + 1 - pc = 2 by omega]
theorem zd_188_10 {code : ByteArray} {pc : Nat} {r : List Nat} (h : zbs code pc = 188 :: 10 :: r) : decode code pc = .ok (.newarray .int, 2) := by
  obtain ⟨g0, h0⟩ := zbs_u1 h
  obtain ⟨g1, h1⟩ := zbs_u1 h0
  show (Except.bind ((Decoder.instr pc).runAt code pc) fun x => Except.ok (x.1, x.2 - pc)) = _
  have e : (Decoder.instr pc).runAt code pc = .ok (.newarray .int, pc + 1 + 1) := by
    show (Except.bind ((Reader.u1 : Decoder Nat) code (pc)) _) = _
    rw [g0]
    show (Except.bind ((Reader.u1 : Decoder Nat) code (pc + 1)) _) = _
    rw [g1]
    rfl
  rw [e]
  show Except.ok (_, pc + 1 + 1 - pc) = _
  rw [show pc + 1 + 1 - pc = 2 by omega]
theorem zd_188_11 {code : ByteArray} {pc : Nat} {r : List Nat} (h : zbs code pc = 188 :: 11 :: r) : decode code pc = .ok (.newarray .long, 2) := by
  obtain ⟨g0, h0⟩ := zbs_u1 h
  obtain ⟨g1, h1⟩ := zbs_u1 h0
  show (Except.bind ((Decoder.instr pc).runAt code pc) fun x => Except.ok (x.1, x.2 - pc)) = _
  have e : (Decoder.instr pc).runAt code pc = .ok (.newarray .long, pc + 1 + 1) := by
    show (Except.bind ((Reader.u1 : Decoder Nat) code (pc)) _) = _
    rw [g0]
    show (Except.bind ((Reader.u1 : Decoder Nat) code (pc + 1)) _) = _
    rw [g1]
    rfl
  rw [e]
  show Except.ok (_, pc + 1 + 1 - pc) = _
  rw [show pc + 1 + 1 - pc = 2 by omega]
theorem zd_189 {code : ByteArray} {pc a b : Nat} {r : List Nat} (h : zbs code pc = 189 :: a :: b :: r) : decode code pc = .ok (.anewarray (a * 256 + b), 3) := by
  obtain ⟨g0, h0⟩ := zbs_u1 h
  have g1 := zbs_u2 h0
  show (Except.bind ((Decoder.instr pc).runAt code pc) fun x => Except.ok (x.1, x.2 - pc)) = _
  have e : (Decoder.instr pc).runAt code pc = .ok (.anewarray (a * 256 + b), pc + 1 + 1 + 1) := by
    show (Except.bind ((Reader.u1 : Decoder Nat) code (pc)) _) = _
    rw [g0]
    show (Except.bind ((Reader.u2 : Decoder Nat) code (pc + 1)) _) = _
    rw [g1]
    rfl
  rw [e]
  show Except.ok (_, pc + 1 + 1 + 1 - pc) = _
  rw [show pc + 1 + 1 + 1 - pc = 3 by omega]
theorem zd_190 {code : ByteArray} {pc : Nat} {r : List Nat} (h : zbs code pc = 190 :: r) : decode code pc = .ok (.arraylength, 1) := by
  obtain ⟨g0, h0⟩ := zbs_u1 h
  show (Except.bind ((Decoder.instr pc).runAt code pc) fun x => Except.ok (x.1, x.2 - pc)) = _
  have e : (Decoder.instr pc).runAt code pc = .ok (.arraylength, pc + 1) := by
    show (Except.bind ((Reader.u1 : Decoder Nat) code (pc)) _) = _
    rw [g0]
    rfl
  rw [e]
  show Except.ok (_, pc + 1 - pc) = _
  rw [show pc + 1 - pc = 1 by omega]
theorem zd_191 {code : ByteArray} {pc : Nat} {r : List Nat} (h : zbs code pc = 191 :: r) : decode code pc = .ok (.athrow, 1) := by
  obtain ⟨g0, h0⟩ := zbs_u1 h
  show (Except.bind ((Decoder.instr pc).runAt code pc) fun x => Except.ok (x.1, x.2 - pc)) = _
  have e : (Decoder.instr pc).runAt code pc = .ok (.athrow, pc + 1) := by
    show (Except.bind ((Reader.u1 : Decoder Nat) code (pc)) _) = _
    rw [g0]
    rfl
  rw [e]
  show Except.ok (_, pc + 1 - pc) = _
  rw [show pc + 1 - pc = 1 by omega]
theorem zd_198 {code : ByteArray} {pc a b : Nat} {r : List Nat} (h : zbs code pc = 198 :: a :: b :: r) : decode code pc = .ok (.ifnull (Reader.signed 16 (a * 256 + b)), 3) := by
  obtain ⟨g0, h0⟩ := zbs_u1 h
  have g1 := zbs_s2 h0
  show (Except.bind ((Decoder.instr pc).runAt code pc) fun x => Except.ok (x.1, x.2 - pc)) = _
  have e : (Decoder.instr pc).runAt code pc = .ok (.ifnull (Reader.signed 16 (a * 256 + b)), pc + 1 + 1 + 1) := by
    show (Except.bind ((Reader.u1 : Decoder Nat) code (pc)) _) = _
    rw [g0]
    show (Except.bind ((Reader.s2 : Decoder Int) code (pc + 1)) _) = _
    rw [g1]
    rfl
  rw [e]
  show Except.ok (_, pc + 1 + 1 + 1 - pc) = _
  rw [show pc + 1 + 1 + 1 - pc = 3 by omega]
theorem zd_199 {code : ByteArray} {pc a b : Nat} {r : List Nat} (h : zbs code pc = 199 :: a :: b :: r) : decode code pc = .ok (.ifnonnull (Reader.signed 16 (a * 256 + b)), 3) := by
  obtain ⟨g0, h0⟩ := zbs_u1 h
  have g1 := zbs_s2 h0
  show (Except.bind ((Decoder.instr pc).runAt code pc) fun x => Except.ok (x.1, x.2 - pc)) = _
  have e : (Decoder.instr pc).runAt code pc = .ok (.ifnonnull (Reader.signed 16 (a * 256 + b)), pc + 1 + 1 + 1) := by
    show (Except.bind ((Reader.u1 : Decoder Nat) code (pc)) _) = _
    rw [g0]
    show (Except.bind ((Reader.s2 : Decoder Int) code (pc + 1)) _) = _
    rw [g1]
    rfl
  rw [e]
  show Except.ok (_, pc + 1 + 1 + 1 - pc) = _
  rw [show pc + 1 + 1 + 1 - pc = 3 by omega]
def zf1 (f : Nat → Instr) (r : List Nat) : Option (Instr × Nat) := match r with
  | a :: _ => some (f a, 2)
  | _ => none
def zf2 (f : Nat → Nat → Instr) (r : List Nat) : Option (Instr × Nat) := match r with
  | a :: b :: _ => some (f a b, 3)
  | _ => none
def zfna (r : List Nat) : Option (Instr × Nat) := match r with
  | 4 :: _ => some (.newarray .boolean, 2)
  | 5 :: _ => some (.newarray .char, 2)
  | 6 :: _ => some (.newarray .float, 2)
  | 7 :: _ => some (.newarray .double, 2)
  | 8 :: _ => some (.newarray .byte, 2)
  | 9 :: _ => some (.newarray .short, 2)
  | 10 :: _ => some (.newarray .int, 2)
  | 11 :: _ => some (.newarray .long, 2)
  | _ => none
def zfd (o : Nat) (r : List Nat) : Option (Instr × Nat) := cond (Nat.blt o 97) (cond (Nat.blt o 44) (cond (Nat.blt o 20) (cond (Nat.blt o 8) (cond (Nat.blt o 4) (cond (Nat.blt o 2) (cond (Nat.beq o 1) (some (.aconst_null, 1)) none) (cond (Nat.blt o 3) (cond (Nat.beq o 2) (some (.iconst (-1), 1)) none) (cond (Nat.beq o 3) (some (.iconst (0), 1)) none))) (cond (Nat.blt o 6) (cond (Nat.blt o 5) (cond (Nat.beq o 4) (some (.iconst (1), 1)) none) (cond (Nat.beq o 5) (some (.iconst (2), 1)) none)) (cond (Nat.blt o 7) (cond (Nat.beq o 6) (some (.iconst (3), 1)) none) (cond (Nat.beq o 7) (some (.iconst (4), 1)) none)))) (cond (Nat.blt o 16) (cond (Nat.blt o 9) (cond (Nat.beq o 8) (some (.iconst (5), 1)) none) (cond (Nat.blt o 10) (cond (Nat.beq o 9) (some (.lconst 0, 1)) none) (cond (Nat.beq o 10) (some (.lconst 1, 1)) none))) (cond (Nat.blt o 18) (cond (Nat.blt o 17) (cond (Nat.beq o 16) (zf1 (fun a => .bipush (Reader.signed 8 a)) r) none) (cond (Nat.beq o 17) (zf2 (fun a b => .sipush (Reader.signed 16 (a * 256 + b))) r) none)) (cond (Nat.blt o 19) (cond (Nat.beq o 18) (zf1 (fun a => .ldc a) r) none) (cond (Nat.beq o 19) (zf2 (fun a b => .ldc_w (a * 256 + b)) r) none))))) (cond (Nat.blt o 29) (cond (Nat.blt o 25) (cond (Nat.blt o 21) (cond (Nat.beq o 20) (zf2 (fun a b => .ldc2_w (a * 256 + b)) r) none) (cond (Nat.blt o 22) (cond (Nat.beq o 21) (zf1 (fun a => .iload a) r) none) (cond (Nat.beq o 22) (zf1 (fun a => .lload a) r) none))) (cond (Nat.blt o 27) (cond (Nat.blt o 26) (cond (Nat.beq o 25) (zf1 (fun a => .aload a) r) none) (cond (Nat.beq o 26) (some (.iload_n 0, 1)) none)) (cond (Nat.blt o 28) (cond (Nat.beq o 27) (some (.iload_n 1, 1)) none) (cond (Nat.beq o 28) (some (.iload_n 2, 1)) none)))) (cond (Nat.blt o 32) (cond (Nat.blt o 30) (cond (Nat.beq o 29) (some (.iload_n 3, 1)) none) (cond (Nat.blt o 31) (cond (Nat.beq o 30) (some (.lload_n 0, 1)) none) (cond (Nat.beq o 31) (some (.lload_n 1, 1)) none))) (cond (Nat.blt o 42) (cond (Nat.blt o 33) (cond (Nat.beq o 32) (some (.lload_n 2, 1)) none) (cond (Nat.beq o 33) (some (.lload_n 3, 1)) none)) (cond (Nat.blt o 43) (cond (Nat.beq o 42) (some (.aload_n 0, 1)) none) (cond (Nat.beq o 43) (some (.aload_n 1, 1)) none)))))) (cond (Nat.blt o 65) (cond (Nat.blt o 58) (cond (Nat.blt o 50) (cond (Nat.blt o 45) (cond (Nat.beq o 44) (some (.aload_n 2, 1)) none) (cond (Nat.blt o 46) (cond (Nat.beq o 45) (some (.aload_n 3, 1)) none) (cond (Nat.beq o 46) (some (.iaload, 1)) none))) (cond (Nat.blt o 54) (cond (Nat.blt o 51) (cond (Nat.beq o 50) (some (.aaload, 1)) none) (cond (Nat.beq o 51) (some (.baload, 1)) none)) (cond (Nat.blt o 55) (cond (Nat.beq o 54) (zf1 (fun a => .istore a) r) none) (cond (Nat.beq o 55) (zf1 (fun a => .lstore a) r) none)))) (cond (Nat.blt o 61) (cond (Nat.blt o 59) (cond (Nat.beq o 58) (zf1 (fun a => .astore a) r) none) (cond (Nat.blt o 60) (cond (Nat.beq o 59) (some (.istore_n 0, 1)) none) (cond (Nat.beq o 60) (some (.istore_n 1, 1)) none))) (cond (Nat.blt o 63) (cond (Nat.blt o 62) (cond (Nat.beq o 61) (some (.istore_n 2, 1)) none) (cond (Nat.beq o 62) (some (.istore_n 3, 1)) none)) (cond (Nat.blt o 64) (cond (Nat.beq o 63) (some (.lstore_n 0, 1)) none) (cond (Nat.beq o 64) (some (.lstore_n 1, 1)) none))))) (cond (Nat.blt o 83) (cond (Nat.blt o 76) (cond (Nat.blt o 66) (cond (Nat.beq o 65) (some (.lstore_n 2, 1)) none) (cond (Nat.blt o 75) (cond (Nat.beq o 66) (some (.lstore_n 3, 1)) none) (cond (Nat.beq o 75) (some (.astore_n 0, 1)) none))) (cond (Nat.blt o 78) (cond (Nat.blt o 77) (cond (Nat.beq o 76) (some (.astore_n 1, 1)) none) (cond (Nat.beq o 77) (some (.astore_n 2, 1)) none)) (cond (Nat.blt o 79) (cond (Nat.beq o 78) (some (.astore_n 3, 1)) none) (cond (Nat.beq o 79) (some (.iastore, 1)) none)))) (cond (Nat.blt o 89) (cond (Nat.blt o 87) (cond (Nat.blt o 84) (cond (Nat.beq o 83) (some (.aastore, 1)) none) (cond (Nat.beq o 84) (some (.bastore, 1)) none)) (cond (Nat.blt o 88) (cond (Nat.beq o 87) (some (.pop, 1)) none) (cond (Nat.beq o 88) (some (.pop2, 1)) none))) (cond (Nat.blt o 92) (cond (Nat.blt o 90) (cond (Nat.beq o 89) (some (.dup, 1)) none) (cond (Nat.beq o 90) (some (.dup_x1, 1)) none)) (cond (Nat.blt o 96) (cond (Nat.beq o 92) (some (.dup2, 1)) none) (cond (Nat.beq o 96) (some (.iadd, 1)) none))))))) (cond (Nat.blt o 154) (cond (Nat.blt o 123) (cond (Nat.blt o 112) (cond (Nat.blt o 104) (cond (Nat.blt o 100) (cond (Nat.beq o 97) (some (.ladd, 1)) none) (cond (Nat.blt o 101) (cond (Nat.beq o 100) (some (.isub, 1)) none) (cond (Nat.beq o 101) (some (.lsub, 1)) none))) (cond (Nat.blt o 108) (cond (Nat.blt o 105) (cond (Nat.beq o 104) (some (.imul, 1)) none) (cond (Nat.beq o 105) (some (.lmul, 1)) none)) (cond (Nat.blt o 109) (cond (Nat.beq o 108) (some (.idiv, 1)) none) (cond (Nat.beq o 109) (some (.ldiv, 1)) none)))) (cond (Nat.blt o 117) (cond (Nat.blt o 113) (cond (Nat.beq o 112) (some (.irem, 1)) none) (cond (Nat.blt o 116) (cond (Nat.beq o 113) (some (.lrem, 1)) none) (cond (Nat.beq o 116) (some (.ineg, 1)) none))) (cond (Nat.blt o 121) (cond (Nat.blt o 120) (cond (Nat.beq o 117) (some (.lneg, 1)) none) (cond (Nat.beq o 120) (some (.ishl, 1)) none)) (cond (Nat.blt o 122) (cond (Nat.beq o 121) (some (.lshl, 1)) none) (cond (Nat.beq o 122) (some (.ishr, 1)) none))))) (cond (Nat.blt o 131) (cond (Nat.blt o 127) (cond (Nat.blt o 125) (cond (Nat.beq o 123) (some (.lshr, 1)) none) (cond (Nat.blt o 126) (cond (Nat.beq o 125) (some (.lushr, 1)) none) (cond (Nat.beq o 126) (some (.iand, 1)) none))) (cond (Nat.blt o 129) (cond (Nat.blt o 128) (cond (Nat.beq o 127) (some (.land, 1)) none) (cond (Nat.beq o 128) (some (.ior, 1)) none)) (cond (Nat.blt o 130) (cond (Nat.beq o 129) (some (.lor, 1)) none) (cond (Nat.beq o 130) (some (.ixor, 1)) none)))) (cond (Nat.blt o 145) (cond (Nat.blt o 133) (cond (Nat.blt o 132) (cond (Nat.beq o 131) (some (.lxor, 1)) none) (cond (Nat.beq o 132) (zf2 (fun a b => .iinc a (Reader.signed 8 b)) r) none)) (cond (Nat.blt o 136) (cond (Nat.beq o 133) (some (.i2l, 1)) none) (cond (Nat.beq o 136) (some (.l2i, 1)) none))) (cond (Nat.blt o 148) (cond (Nat.blt o 146) (cond (Nat.beq o 145) (some (.i2b, 1)) none) (cond (Nat.beq o 146) (some (.i2c, 1)) none)) (cond (Nat.blt o 153) (cond (Nat.beq o 148) (some (.lcmp, 1)) none) (cond (Nat.beq o 153) (zf2 (fun a b => .ifCond .eq (Reader.signed 16 (a * 256 + b))) r) none)))))) (cond (Nat.blt o 176) (cond (Nat.blt o 161) (cond (Nat.blt o 157) (cond (Nat.blt o 155) (cond (Nat.beq o 154) (zf2 (fun a b => .ifCond .ne (Reader.signed 16 (a * 256 + b))) r) none) (cond (Nat.blt o 156) (cond (Nat.beq o 155) (zf2 (fun a b => .ifCond .lt (Reader.signed 16 (a * 256 + b))) r) none) (cond (Nat.beq o 156) (zf2 (fun a b => .ifCond .ge (Reader.signed 16 (a * 256 + b))) r) none))) (cond (Nat.blt o 159) (cond (Nat.blt o 158) (cond (Nat.beq o 157) (zf2 (fun a b => .ifCond .gt (Reader.signed 16 (a * 256 + b))) r) none) (cond (Nat.beq o 158) (zf2 (fun a b => .ifCond .le (Reader.signed 16 (a * 256 + b))) r) none)) (cond (Nat.blt o 160) (cond (Nat.beq o 159) (zf2 (fun a b => .if_icmp .eq (Reader.signed 16 (a * 256 + b))) r) none) (cond (Nat.beq o 160) (zf2 (fun a b => .if_icmp .ne (Reader.signed 16 (a * 256 + b))) r) none)))) (cond (Nat.blt o 164) (cond (Nat.blt o 162) (cond (Nat.beq o 161) (zf2 (fun a b => .if_icmp .lt (Reader.signed 16 (a * 256 + b))) r) none) (cond (Nat.blt o 163) (cond (Nat.beq o 162) (zf2 (fun a b => .if_icmp .ge (Reader.signed 16 (a * 256 + b))) r) none) (cond (Nat.beq o 163) (zf2 (fun a b => .if_icmp .gt (Reader.signed 16 (a * 256 + b))) r) none))) (cond (Nat.blt o 172) (cond (Nat.blt o 167) (cond (Nat.beq o 164) (zf2 (fun a b => .if_icmp .le (Reader.signed 16 (a * 256 + b))) r) none) (cond (Nat.beq o 167) (zf2 (fun a b => .goto (Reader.signed 16 (a * 256 + b))) r) none)) (cond (Nat.blt o 173) (cond (Nat.beq o 172) (some (.ireturn, 1)) none) (cond (Nat.beq o 173) (some (.lreturn, 1)) none))))) (cond (Nat.blt o 184) (cond (Nat.blt o 180) (cond (Nat.blt o 177) (cond (Nat.beq o 176) (some (.areturn, 1)) none) (cond (Nat.blt o 178) (cond (Nat.beq o 177) (some (.return_, 1)) none) (cond (Nat.beq o 178) (zf2 (fun a b => .getstatic (a * 256 + b)) r) none))) (cond (Nat.blt o 182) (cond (Nat.blt o 181) (cond (Nat.beq o 180) (zf2 (fun a b => .getfield (a * 256 + b)) r) none) (cond (Nat.beq o 181) (zf2 (fun a b => .putfield (a * 256 + b)) r) none)) (cond (Nat.blt o 183) (cond (Nat.beq o 182) (zf2 (fun a b => .invokevirtual (a * 256 + b)) r) none) (cond (Nat.beq o 183) (zf2 (fun a b => .invokespecial (a * 256 + b)) r) none)))) (cond (Nat.blt o 190) (cond (Nat.blt o 188) (cond (Nat.blt o 187) (cond (Nat.beq o 184) (zf2 (fun a b => .invokestatic (a * 256 + b)) r) none) (cond (Nat.beq o 187) (zf2 (fun a b => .new (a * 256 + b)) r) none)) (cond (Nat.blt o 189) (cond (Nat.beq o 188) (zfna r) none) (cond (Nat.beq o 189) (zf2 (fun a b => .anewarray (a * 256 + b)) r) none))) (cond (Nat.blt o 198) (cond (Nat.blt o 191) (cond (Nat.beq o 190) (some (.arraylength, 1)) none) (cond (Nat.beq o 191) (some (.athrow, 1)) none)) (cond (Nat.blt o 199) (cond (Nat.beq o 198) (zf2 (fun a b => .ifnull (Reader.signed 16 (a * 256 + b))) r) none) (cond (Nat.beq o 199) (zf2 (fun a b => .ifnonnull (Reader.signed 16 (a * 256 + b))) r) none)))))))
theorem zcond {α : Type} {c : Bool} {a b x : α} (h : cond c a b = x) : a = x ∨ b = x := by
  cases c
  · exact Or.inr h
  · exact Or.inl h
theorem zcondB {α : Type} {o k : Nat} {a : Option α} {x : α} (h : cond (Nat.beq o k) a none = some x) : o = k ∧ a = some x := by
  cases hq : Nat.beq o k with
  | true => rw [hq] at h; exact ⟨Nat.eq_of_beq_eq_true hq, h⟩
  | false => rw [hq] at h; cases h
theorem zf1_ok {f : Nat → Instr} {r : List Nat} {x : Instr × Nat} (h : zf1 f r = some x) : ∃ a t, r = a :: t ∧ x = (f a, 2) := by
  unfold zf1 at h
  split at h
  · rename_i a t
    exact ⟨a, t, rfl, (Option.some.inj h).symm⟩
  · cases h
theorem zf2_ok {f : Nat → Nat → Instr} {r : List Nat} {x : Instr × Nat} (h : zf2 f r = some x) : ∃ a b t, r = a :: b :: t ∧ x = (f a b, 3) := by
  unfold zf2 at h
  split at h
  · rename_i a b t
    exact ⟨a, b, t, rfl, (Option.some.inj h).symm⟩
  · cases h
set_option maxHeartbeats 4000000 in
theorem zfd_ok {code : ByteArray} {pc o : Nat} {r : List Nat} {x : Instr × Nat} (h : zbs code pc = o :: r) (hf : zfd o r = some x) : decode code pc = .ok x := by
  unfold zfd at hf
  rcases zcond hf with hf | hf
  · rcases zcond hf with hf | hf
    · rcases zcond hf with hf | hf
      · rcases zcond hf with hf | hf
        · rcases zcond hf with hf | hf
          · rcases zcond hf with hf | hf
            · obtain ⟨rfl, hf⟩ := zcondB hf
              cases hf
              exact zd_1 h
            · rcases zcond hf with hf | hf
              · obtain ⟨rfl, hf⟩ := zcondB hf
                cases hf
                exact zd_2 h
              · obtain ⟨rfl, hf⟩ := zcondB hf
                cases hf
                exact zd_3 h
          · rcases zcond hf with hf | hf
            · rcases zcond hf with hf | hf
              · obtain ⟨rfl, hf⟩ := zcondB hf
                cases hf
                exact zd_4 h
              · obtain ⟨rfl, hf⟩ := zcondB hf
                cases hf
                exact zd_5 h
            · rcases zcond hf with hf | hf
              · obtain ⟨rfl, hf⟩ := zcondB hf
                cases hf
                exact zd_6 h
              · obtain ⟨rfl, hf⟩ := zcondB hf
                cases hf
                exact zd_7 h
        · rcases zcond hf with hf | hf
          · rcases zcond hf with hf | hf
            · obtain ⟨rfl, hf⟩ := zcondB hf
              cases hf
              exact zd_8 h
            · rcases zcond hf with hf | hf
              · obtain ⟨rfl, hf⟩ := zcondB hf
                cases hf
                exact zd_9 h
              · obtain ⟨rfl, hf⟩ := zcondB hf
                cases hf
                exact zd_10 h
          · rcases zcond hf with hf | hf
            · rcases zcond hf with hf | hf
              · obtain ⟨rfl, hf⟩ := zcondB hf
                obtain ⟨a, t, rfl, rfl⟩ := zf1_ok hf
                exact zd_16 h
              · obtain ⟨rfl, hf⟩ := zcondB hf
                obtain ⟨a, b, t, rfl, rfl⟩ := zf2_ok hf
                exact zd_17 h
            · rcases zcond hf with hf | hf
              · obtain ⟨rfl, hf⟩ := zcondB hf
                obtain ⟨a, t, rfl, rfl⟩ := zf1_ok hf
                exact zd_18 h
              · obtain ⟨rfl, hf⟩ := zcondB hf
                obtain ⟨a, b, t, rfl, rfl⟩ := zf2_ok hf
                exact zd_19 h
      · rcases zcond hf with hf | hf
        · rcases zcond hf with hf | hf
          · rcases zcond hf with hf | hf
            · obtain ⟨rfl, hf⟩ := zcondB hf
              obtain ⟨a, b, t, rfl, rfl⟩ := zf2_ok hf
              exact zd_20 h
            · rcases zcond hf with hf | hf
              · obtain ⟨rfl, hf⟩ := zcondB hf
                obtain ⟨a, t, rfl, rfl⟩ := zf1_ok hf
                exact zd_21 h
              · obtain ⟨rfl, hf⟩ := zcondB hf
                obtain ⟨a, t, rfl, rfl⟩ := zf1_ok hf
                exact zd_22 h
          · rcases zcond hf with hf | hf
            · rcases zcond hf with hf | hf
              · obtain ⟨rfl, hf⟩ := zcondB hf
                obtain ⟨a, t, rfl, rfl⟩ := zf1_ok hf
                exact zd_25 h
              · obtain ⟨rfl, hf⟩ := zcondB hf
                cases hf
                exact zd_26 h
            · rcases zcond hf with hf | hf
              · obtain ⟨rfl, hf⟩ := zcondB hf
                cases hf
                exact zd_27 h
              · obtain ⟨rfl, hf⟩ := zcondB hf
                cases hf
                exact zd_28 h
        · rcases zcond hf with hf | hf
          · rcases zcond hf with hf | hf
            · obtain ⟨rfl, hf⟩ := zcondB hf
              cases hf
              exact zd_29 h
            · rcases zcond hf with hf | hf
              · obtain ⟨rfl, hf⟩ := zcondB hf
                cases hf
                exact zd_30 h
              · obtain ⟨rfl, hf⟩ := zcondB hf
                cases hf
                exact zd_31 h
          · rcases zcond hf with hf | hf
            · rcases zcond hf with hf | hf
              · obtain ⟨rfl, hf⟩ := zcondB hf
                cases hf
                exact zd_32 h
              · obtain ⟨rfl, hf⟩ := zcondB hf
                cases hf
                exact zd_33 h
            · rcases zcond hf with hf | hf
              · obtain ⟨rfl, hf⟩ := zcondB hf
                cases hf
                exact zd_42 h
              · obtain ⟨rfl, hf⟩ := zcondB hf
                cases hf
                exact zd_43 h
    · rcases zcond hf with hf | hf
      · rcases zcond hf with hf | hf
        · rcases zcond hf with hf | hf
          · rcases zcond hf with hf | hf
            · obtain ⟨rfl, hf⟩ := zcondB hf
              cases hf
              exact zd_44 h
            · rcases zcond hf with hf | hf
              · obtain ⟨rfl, hf⟩ := zcondB hf
                cases hf
                exact zd_45 h
              · obtain ⟨rfl, hf⟩ := zcondB hf
                cases hf
                exact zd_46 h
          · rcases zcond hf with hf | hf
            · rcases zcond hf with hf | hf
              · obtain ⟨rfl, hf⟩ := zcondB hf
                cases hf
                exact zd_50 h
              · obtain ⟨rfl, hf⟩ := zcondB hf
                cases hf
                exact zd_51 h
            · rcases zcond hf with hf | hf
              · obtain ⟨rfl, hf⟩ := zcondB hf
                obtain ⟨a, t, rfl, rfl⟩ := zf1_ok hf
                exact zd_54 h
              · obtain ⟨rfl, hf⟩ := zcondB hf
                obtain ⟨a, t, rfl, rfl⟩ := zf1_ok hf
                exact zd_55 h
        · rcases zcond hf with hf | hf
          · rcases zcond hf with hf | hf
            · obtain ⟨rfl, hf⟩ := zcondB hf
              obtain ⟨a, t, rfl, rfl⟩ := zf1_ok hf
              exact zd_58 h
            · rcases zcond hf with hf | hf
              · obtain ⟨rfl, hf⟩ := zcondB hf
                cases hf
                exact zd_59 h
              · obtain ⟨rfl, hf⟩ := zcondB hf
                cases hf
                exact zd_60 h
          · rcases zcond hf with hf | hf
            · rcases zcond hf with hf | hf
              · obtain ⟨rfl, hf⟩ := zcondB hf
                cases hf
                exact zd_61 h
              · obtain ⟨rfl, hf⟩ := zcondB hf
                cases hf
                exact zd_62 h
            · rcases zcond hf with hf | hf
              · obtain ⟨rfl, hf⟩ := zcondB hf
                cases hf
                exact zd_63 h
              · obtain ⟨rfl, hf⟩ := zcondB hf
                cases hf
                exact zd_64 h
      · rcases zcond hf with hf | hf
        · rcases zcond hf with hf | hf
          · rcases zcond hf with hf | hf
            · obtain ⟨rfl, hf⟩ := zcondB hf
              cases hf
              exact zd_65 h
            · rcases zcond hf with hf | hf
              · obtain ⟨rfl, hf⟩ := zcondB hf
                cases hf
                exact zd_66 h
              · obtain ⟨rfl, hf⟩ := zcondB hf
                cases hf
                exact zd_75 h
          · rcases zcond hf with hf | hf
            · rcases zcond hf with hf | hf
              · obtain ⟨rfl, hf⟩ := zcondB hf
                cases hf
                exact zd_76 h
              · obtain ⟨rfl, hf⟩ := zcondB hf
                cases hf
                exact zd_77 h
            · rcases zcond hf with hf | hf
              · obtain ⟨rfl, hf⟩ := zcondB hf
                cases hf
                exact zd_78 h
              · obtain ⟨rfl, hf⟩ := zcondB hf
                cases hf
                exact zd_79 h
        · rcases zcond hf with hf | hf
          · rcases zcond hf with hf | hf
            · rcases zcond hf with hf | hf
              · obtain ⟨rfl, hf⟩ := zcondB hf
                cases hf
                exact zd_83 h
              · obtain ⟨rfl, hf⟩ := zcondB hf
                cases hf
                exact zd_84 h
            · rcases zcond hf with hf | hf
              · obtain ⟨rfl, hf⟩ := zcondB hf
                cases hf
                exact zd_87 h
              · obtain ⟨rfl, hf⟩ := zcondB hf
                cases hf
                exact zd_88 h
          · rcases zcond hf with hf | hf
            · rcases zcond hf with hf | hf
              · obtain ⟨rfl, hf⟩ := zcondB hf
                cases hf
                exact zd_89 h
              · obtain ⟨rfl, hf⟩ := zcondB hf
                cases hf
                exact zd_90 h
            · rcases zcond hf with hf | hf
              · obtain ⟨rfl, hf⟩ := zcondB hf
                cases hf
                exact zd_92 h
              · obtain ⟨rfl, hf⟩ := zcondB hf
                cases hf
                exact zd_96 h
  · rcases zcond hf with hf | hf
    · rcases zcond hf with hf | hf
      · rcases zcond hf with hf | hf
        · rcases zcond hf with hf | hf
          · rcases zcond hf with hf | hf
            · obtain ⟨rfl, hf⟩ := zcondB hf
              cases hf
              exact zd_97 h
            · rcases zcond hf with hf | hf
              · obtain ⟨rfl, hf⟩ := zcondB hf
                cases hf
                exact zd_100 h
              · obtain ⟨rfl, hf⟩ := zcondB hf
                cases hf
                exact zd_101 h
          · rcases zcond hf with hf | hf
            · rcases zcond hf with hf | hf
              · obtain ⟨rfl, hf⟩ := zcondB hf
                cases hf
                exact zd_104 h
              · obtain ⟨rfl, hf⟩ := zcondB hf
                cases hf
                exact zd_105 h
            · rcases zcond hf with hf | hf
              · obtain ⟨rfl, hf⟩ := zcondB hf
                cases hf
                exact zd_108 h
              · obtain ⟨rfl, hf⟩ := zcondB hf
                cases hf
                exact zd_109 h
        · rcases zcond hf with hf | hf
          · rcases zcond hf with hf | hf
            · obtain ⟨rfl, hf⟩ := zcondB hf
              cases hf
              exact zd_112 h
            · rcases zcond hf with hf | hf
              · obtain ⟨rfl, hf⟩ := zcondB hf
                cases hf
                exact zd_113 h
              · obtain ⟨rfl, hf⟩ := zcondB hf
                cases hf
                exact zd_116 h
          · rcases zcond hf with hf | hf
            · rcases zcond hf with hf | hf
              · obtain ⟨rfl, hf⟩ := zcondB hf
                cases hf
                exact zd_117 h
              · obtain ⟨rfl, hf⟩ := zcondB hf
                cases hf
                exact zd_120 h
            · rcases zcond hf with hf | hf
              · obtain ⟨rfl, hf⟩ := zcondB hf
                cases hf
                exact zd_121 h
              · obtain ⟨rfl, hf⟩ := zcondB hf
                cases hf
                exact zd_122 h
      · rcases zcond hf with hf | hf
        · rcases zcond hf with hf | hf
          · rcases zcond hf with hf | hf
            · obtain ⟨rfl, hf⟩ := zcondB hf
              cases hf
              exact zd_123 h
            · rcases zcond hf with hf | hf
              · obtain ⟨rfl, hf⟩ := zcondB hf
                cases hf
                exact zd_125 h
              · obtain ⟨rfl, hf⟩ := zcondB hf
                cases hf
                exact zd_126 h
          · rcases zcond hf with hf | hf
            · rcases zcond hf with hf | hf
              · obtain ⟨rfl, hf⟩ := zcondB hf
                cases hf
                exact zd_127 h
              · obtain ⟨rfl, hf⟩ := zcondB hf
                cases hf
                exact zd_128 h
            · rcases zcond hf with hf | hf
              · obtain ⟨rfl, hf⟩ := zcondB hf
                cases hf
                exact zd_129 h
              · obtain ⟨rfl, hf⟩ := zcondB hf
                cases hf
                exact zd_130 h
        · rcases zcond hf with hf | hf
          · rcases zcond hf with hf | hf
            · rcases zcond hf with hf | hf
              · obtain ⟨rfl, hf⟩ := zcondB hf
                cases hf
                exact zd_131 h
              · obtain ⟨rfl, hf⟩ := zcondB hf
                obtain ⟨a, b, t, rfl, rfl⟩ := zf2_ok hf
                exact zd_132 h
            · rcases zcond hf with hf | hf
              · obtain ⟨rfl, hf⟩ := zcondB hf
                cases hf
                exact zd_133 h
              · obtain ⟨rfl, hf⟩ := zcondB hf
                cases hf
                exact zd_136 h
          · rcases zcond hf with hf | hf
            · rcases zcond hf with hf | hf
              · obtain ⟨rfl, hf⟩ := zcondB hf
                cases hf
                exact zd_145 h
              · obtain ⟨rfl, hf⟩ := zcondB hf
                cases hf
                exact zd_146 h
            · rcases zcond hf with hf | hf
              · obtain ⟨rfl, hf⟩ := zcondB hf
                cases hf
                exact zd_148 h
              · obtain ⟨rfl, hf⟩ := zcondB hf
                obtain ⟨a, b, t, rfl, rfl⟩ := zf2_ok hf
                exact zd_153 h
    · rcases zcond hf with hf | hf
      · rcases zcond hf with hf | hf
        · rcases zcond hf with hf | hf
          · rcases zcond hf with hf | hf
            · obtain ⟨rfl, hf⟩ := zcondB hf
              obtain ⟨a, b, t, rfl, rfl⟩ := zf2_ok hf
              exact zd_154 h
            · rcases zcond hf with hf | hf
              · obtain ⟨rfl, hf⟩ := zcondB hf
                obtain ⟨a, b, t, rfl, rfl⟩ := zf2_ok hf
                exact zd_155 h
              · obtain ⟨rfl, hf⟩ := zcondB hf
                obtain ⟨a, b, t, rfl, rfl⟩ := zf2_ok hf
                exact zd_156 h
          · rcases zcond hf with hf | hf
            · rcases zcond hf with hf | hf
              · obtain ⟨rfl, hf⟩ := zcondB hf
                obtain ⟨a, b, t, rfl, rfl⟩ := zf2_ok hf
                exact zd_157 h
              · obtain ⟨rfl, hf⟩ := zcondB hf
                obtain ⟨a, b, t, rfl, rfl⟩ := zf2_ok hf
                exact zd_158 h
            · rcases zcond hf with hf | hf
              · obtain ⟨rfl, hf⟩ := zcondB hf
                obtain ⟨a, b, t, rfl, rfl⟩ := zf2_ok hf
                exact zd_159 h
              · obtain ⟨rfl, hf⟩ := zcondB hf
                obtain ⟨a, b, t, rfl, rfl⟩ := zf2_ok hf
                exact zd_160 h
        · rcases zcond hf with hf | hf
          · rcases zcond hf with hf | hf
            · obtain ⟨rfl, hf⟩ := zcondB hf
              obtain ⟨a, b, t, rfl, rfl⟩ := zf2_ok hf
              exact zd_161 h
            · rcases zcond hf with hf | hf
              · obtain ⟨rfl, hf⟩ := zcondB hf
                obtain ⟨a, b, t, rfl, rfl⟩ := zf2_ok hf
                exact zd_162 h
              · obtain ⟨rfl, hf⟩ := zcondB hf
                obtain ⟨a, b, t, rfl, rfl⟩ := zf2_ok hf
                exact zd_163 h
          · rcases zcond hf with hf | hf
            · rcases zcond hf with hf | hf
              · obtain ⟨rfl, hf⟩ := zcondB hf
                obtain ⟨a, b, t, rfl, rfl⟩ := zf2_ok hf
                exact zd_164 h
              · obtain ⟨rfl, hf⟩ := zcondB hf
                obtain ⟨a, b, t, rfl, rfl⟩ := zf2_ok hf
                exact zd_167 h
            · rcases zcond hf with hf | hf
              · obtain ⟨rfl, hf⟩ := zcondB hf
                cases hf
                exact zd_172 h
              · obtain ⟨rfl, hf⟩ := zcondB hf
                cases hf
                exact zd_173 h
      · rcases zcond hf with hf | hf
        · rcases zcond hf with hf | hf
          · rcases zcond hf with hf | hf
            · obtain ⟨rfl, hf⟩ := zcondB hf
              cases hf
              exact zd_176 h
            · rcases zcond hf with hf | hf
              · obtain ⟨rfl, hf⟩ := zcondB hf
                cases hf
                exact zd_177 h
              · obtain ⟨rfl, hf⟩ := zcondB hf
                obtain ⟨a, b, t, rfl, rfl⟩ := zf2_ok hf
                exact zd_178 h
          · rcases zcond hf with hf | hf
            · rcases zcond hf with hf | hf
              · obtain ⟨rfl, hf⟩ := zcondB hf
                obtain ⟨a, b, t, rfl, rfl⟩ := zf2_ok hf
                exact zd_180 h
              · obtain ⟨rfl, hf⟩ := zcondB hf
                obtain ⟨a, b, t, rfl, rfl⟩ := zf2_ok hf
                exact zd_181 h
            · rcases zcond hf with hf | hf
              · obtain ⟨rfl, hf⟩ := zcondB hf
                obtain ⟨a, b, t, rfl, rfl⟩ := zf2_ok hf
                exact zd_182 h
              · obtain ⟨rfl, hf⟩ := zcondB hf
                obtain ⟨a, b, t, rfl, rfl⟩ := zf2_ok hf
                exact zd_183 h
        · rcases zcond hf with hf | hf
          · rcases zcond hf with hf | hf
            · rcases zcond hf with hf | hf
              · obtain ⟨rfl, hf⟩ := zcondB hf
                obtain ⟨a, b, t, rfl, rfl⟩ := zf2_ok hf
                exact zd_184 h
              · obtain ⟨rfl, hf⟩ := zcondB hf
                obtain ⟨a, b, t, rfl, rfl⟩ := zf2_ok hf
                exact zd_187 h
            · rcases zcond hf with hf | hf
              · obtain ⟨rfl, hf⟩ := zcondB hf
                unfold zfna at hf
                split at hf
                · cases hf
                  exact zd_188_4 h
                · cases hf
                  exact zd_188_5 h
                · cases hf
                  exact zd_188_6 h
                · cases hf
                  exact zd_188_7 h
                · cases hf
                  exact zd_188_8 h
                · cases hf
                  exact zd_188_9 h
                · cases hf
                  exact zd_188_10 h
                · cases hf
                  exact zd_188_11 h
                · cases hf
              · obtain ⟨rfl, hf⟩ := zcondB hf
                obtain ⟨a, b, t, rfl, rfl⟩ := zf2_ok hf
                exact zd_189 h
          · rcases zcond hf with hf | hf
            · rcases zcond hf with hf | hf
              · obtain ⟨rfl, hf⟩ := zcondB hf
                cases hf
                exact zd_190 h
              · obtain ⟨rfl, hf⟩ := zcondB hf
                cases hf
                exact zd_191 h
            · rcases zcond hf with hf | hf
              · obtain ⟨rfl, hf⟩ := zcondB hf
                obtain ⟨a, b, t, rfl, rfl⟩ := zf2_ok hf
                exact zd_198 h
              · obtain ⟨rfl, hf⟩ := zcondB hf
                obtain ⟨a, b, t, rfl, rfl⟩ := zf2_ok hf
                exact zd_199 h
/-- one pass over a method's bytes: the table tells what stands there, and nothing else -/
def zpass (code : ByteArray) (t : Nat → Option (Instr × Nat)) : List Nat → Nat → Nat → Bool
  | [], _, _ => true
  | b :: r, p, 0 => match t p with
    | some x => (match zfd b r with
      | some y => decide (x = y)
      | none => decide (decode code p = .ok x)) && zpass code t r (p + 1) (x.2 - 1)
    | none => false
  | _ :: r, p, k + 1 => (t p).isNone && zpass code t r (p + 1) k
theorem zpass_ok {code : ByteArray} {t : Nat → Option (Instr × Nat)} : ∀ (l : List Nat) (p k : Nat), zbs code p = l → zpass code t l p k = true → ∀ q x, p ≤ q → q < p + l.length → t q = some x → decode code q = .ok x := by
  intro l
  induction l with
  | nil => intro p k hl h q x h1 h2; simp at h2; omega
  | cons b r ih =>
    intro p k hl h q x h1 h2 hx
    have hr := (zbs_u1 hl).2
    rw [List.length_cons] at h2
    by_cases hq : q = p
    · subst hq
      cases k with
      | zero =>
        simp only [zpass, hx, Bool.and_eq_true] at h
        have h := h.1
        split at h
        · rename_i y hy
          have : x = y := by simpa using h
          subst this
          exact zfd_ok hl hy
        · simpa using h
      | succ k =>
        simp only [zpass, hx, Bool.and_eq_true] at h
        cases h.1
    · cases k with
      | zero =>
        simp only [zpass] at h
        split at h
        · rw [Bool.and_eq_true] at h
          exact ih (p + 1) _ hr h.2 q x (by omega) (by omega) hx
        · cases h
      | succ k =>
        simp only [zpass, Bool.and_eq_true] at h
        exact ih (p + 1) _ hr h.2 q x (by omega) (by omega) hx
theorem zdecF (code : ByteArray) (t : Nat → Option (Instr × Nat)) (l : List Nat) (n : Nat) (hl : zbs code 0 = l) (hn : n ≤ l.length) (h : zpass code t l 0 0 = true) : ∀ (pc : Nat) (x : Instr × Nat), cond (Nat.blt pc n) (t pc) none = some x → decode code pc = .ok x := by
  intro pc x hx
  cases hq : Nat.blt pc n with
  | false => rw [hq] at hx; cases hx
  | true =>
    rw [hq] at hx
    have hlt : pc < n := Nat.le_of_ble_eq_true hq
    exact zpass_ok l 0 0 hl h pc x (by omega) (by omega) hx
