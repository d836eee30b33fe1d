/-! THE CLAIM OUT OF ONE WALK OF THE LAW'S BODY. Your part is whole_start (and what it stands on); all else here is the same for every law, but numbers. -/
def R_law : String := "ForthHouseLaw"
def lw_P (b : Addr) (xs : List Int32) (args : Array Value) (s : State) : Prop := args = #[.ref b] ∧ s.IntsAt b xs ∧ xs.length ≤ 2560 ∧ (Jvm.Cond.and given_1 narrow_1).before args s = true
def lw_Q (_ : Array Value) (s : State) (o : Outcome) (t : State) : Prop := o = .returned (some (.int 1)) ∧ Framed s o t [] 600000 7302250
def lw_Z (below : List Frame) (a : Array Value) (s : State) : State → Prop := fun t => ∃ o, t.status = .running ∧ Ended t below o ∧ lw_Q a s o t
/-- the law's own end, with 1 on the stack, nothing written that was there before, its room as the claim has it -/
theorem lw_ret {p : Program} {l : Launch} {e : Env} {s : State} {m : MethodId} {below : List Frame} {meth : Method} {c : Code} {b : Nat} (hx : p.tables.exec = Jvm.exec) (hb : c.code = code) (hr : meth.sig.returnType = ret) (hlocks : meth.locks = false) {pc : Nat} {H : Heap} {ls : Array Slot} (hdg : decode code pc = .ok (.ireturn, 1)) : W p l e room_1 s m #[Value.ref b] below meth c H [] 600000 7302250 (lw_Z below #[Value.ref b] s) (F0 m pc ls [.int 1]) := by
  intro T hT X
  obtain ⟨fs, hret, hrun, hended, hW, hframe⟩ := X.leave (v := some (.int 1)) (hlocks := hlocks) (fun h => by rw [hr] at h; cases h)
  have hmeth' : T.vm.method? m = some meth := X.method'
  refine ⟨T.setFrames fs, ?_, .returned (some (.int 1)), hrun, hended, rfl, ⟨_, rfl⟩, hW, hframe⟩
  jvm_step X.here [X.here.top, hx, hb, hdg, hmeth', hr, ret, narrow_b1]
  (try refine ⟨rfl, ?_⟩); (try refine ⟨rfl, ?_⟩)
  first | (intro acts; rw [hret _ acts rfl rfl rfl]) | rw [hret _ _ rfl rfl rfl]
  exact Steps.refl _
/-- what holds at the law's entry: the machine, the code, the tables' words (any of lw_tbl by 'hts w (by decide +kernel)'), the script of L ints xs at the cell b, what the Statement gives of the start (any of its parts by flat_of_before) -/
def lw_At (p : Program) (s : State) (m : MethodId) (meth : Method) (c : Code) (b L : Nat) (xs : Nat → Int32) : Prop :=
  p.tables.exec = Jvm.exec ∧ c.code = code ∧ meth.sig.returnType = ret ∧ c.maxLocals = 4 ∧ s.vm.findClass R_law = some m.cls ∧ (∀ w ∈ lw_tbl, w.before #[Value.ref b] s = true) ∧ va_X b L xs s s.heap ∧ b < s.heap.size ∧ meth.locks = false ∧ (Jvm.Cond.and given_1 narrow_1).before #[Value.ref b] s = true

/-! WHAT LAY THERE BEFORE THE LAW BEGAN: the evaluator's outer objects, out of what the Statement gives -/
theorem ztb_of (k : Nat) {w : Cond} (h : lw_tbl[k]? = some w) : w ∈ lw_tbl := List.mem_of_getElem? h
def zso : List (Nat × Nat × Nat) := [(10, 53, 465), (10, 59, 520), (10, 61, 521), (10, 63, 522), (10, 65, 523), (10, 67, 524), (10, 69, 525), (10, 71, 526), (10, 73, 527), (12, 680, 2370), (12, 288, 2828), (12, 294, 2834), (12, 296, 2835)]
def zso1 (i : Nat) : Nat := (zso.getD i (0, 0, 0)).1
def zso2 (i : Nat) : Nat := (zso.getD i (0, 0, 0)).2.1
def zso3 (i : Nat) : Nat := (zso.getD i (0, 0, 0)).2.2
def ztm (i : Nat) : Term := .string (zown (zso1 i)) (zso2 i)
def zsrq (i : Nat) : Bool := match lw_tbl[zso3 i]? with
  | some (.stringRef o k _) => decide (o = zown (zso1 i) ∧ k = zso2 i)
  | _ => false
theorem zsrq_ok : ((List.range 13).all zsrq) = true := by decide +kernel
theorem zso_ok {i : Nat} (hi : i < 13) : ∃ tx, Cond.stringRef (zown (zso1 i)) (zso2 i) tx ∈ lw_tbl := by
  have h := List.all_eq_true.mp zsrq_ok i (List.mem_range.mpr hi)
  unfold zsrq at h
  split at h
  · rename_i o k tx hp
    obtain ⟨rfl, rfl⟩ := of_decide_eq_true h
    exact ⟨tx, List.mem_of_getElem? hp⟩
  · cases h
theorem zlk_big : ∀ (o : Nat), o < 21 → ∀ k, ¬ k < 1060 → zlk o k = none
  | 0, _ => fun k h => zlk_no (g := zlkT_0) k h
  | 1, _ => fun k h => zlk_no (g := zlkT_1) k h
  | 2, _ => fun k h => zlk_no (g := zlkT_2) k h
  | 3, _ => fun k h => zlk_no (g := zlkT_3) k h
  | 4, _ => fun k h => zlk_no (g := zlkT_4) k h
  | 5, _ => fun k h => zlk_no (g := zlkT_5) k h
  | 6, _ => fun k h => zlk_no (g := zlkT_6) k h
  | 7, _ => fun k h => zlk_no (g := zlkT_7) k h
  | 8, _ => fun k h => zlk_no (g := zlkT_8) k h
  | 9, _ => fun k h => zlk_no (g := zlkT_9) k h
  | 10, _ => fun k h => zlk_no (g := zlkT_10) k h
  | 11, _ => fun k h => zlk_no (g := zlkT_11) k h
  | 12, _ => fun k h => zlk_no (g := zlkT_12) k h
  | 13, _ => fun k h => zlk_no (g := zlkT_13) k h
  | 14, _ => fun k h => zlk_no (g := zlkT_14) k h
  | 15, _ => fun k h => zlk_no (g := zlkT_15) k h
  | 16, _ => fun k h => zlk_no (g := zlkT_16) k h
  | 17, _ => fun k h => zlk_no (g := zlkT_17) k h
  | 18, _ => fun k h => zlk_no (g := zlkT_18) k h
  | 19, _ => fun k h => zlk_no (g := zlkT_19) k h
  | 20, _ => fun k h => zlk_no (g := zlkT_20) k h
  | k + 21, h => by omega
def zs7q (o k : Nat) : Bool := match zlk o k with
  | some r => r.1 != 7 || (Nat.blt r.2.1 13 && (zso1 r.2.1 == o && zso2 r.2.1 == k))
  | none => true
theorem zs7q_ok : ((List.range 21).all fun o => (List.range 1060).all fun k => zs7q o k) = true := by decide +kernel
theorem zs7 {o k : Nat} {r : Nat × Nat × Nat × Nat} (ho : o < 21) (h : zlk o k = some r) (h7 : r.1 = 7) : r.2.1 < 13 ∧ zso1 r.2.1 = o ∧ zso2 r.2.1 = k := by
  have hk : k < 1060 := by
    by_cases q : k < 1060
    · exact q
    · rw [zlk_big o ho k q] at h; cases h
  have e := List.all_eq_true.mp (List.all_eq_true.mp zs7q_ok o (List.mem_range.mpr ho)) k (List.mem_range.mpr hk)
  unfold zs7q at e
  rw [h] at e
  simp only [h7, Bool.or_eq_true, Bool.and_eq_true, beq_iff_eq] at e
  rcases e with e | ⟨e1, e2, e3⟩
  · exact absurd e (by decide)
  · exact ⟨Nat.le_of_ble_eq_true e1, e2, e3⟩
def zcT (n : String) (f : List Int32) : List Cond := Cond.arrayOf (.static "ForthHouse" n "[B") .byte :: Cond.eq (.length (.static "ForthHouse" n "[B")) (.int (Int32.ofNat f.length)) :: (List.range f.length).map fun j => Cond.eq (.elem (.static "ForthHouse" n "[B") (.int (Int32.ofNat j))) (.int (f.getD j 0))
def zfv (i : Nat) : Term := .field (ztm i) "java/lang/String" "value" "[B"
def zcS (i : Nat) : List Cond := Cond.exactly (ztm i) "java/lang/String" :: Cond.eq (.field (ztm i) "java/lang/String" "coder" "B") (.int 0) :: Cond.arrayOf (zfv i) .byte :: Cond.eq (.length (zfv i)) (.int (Int32.ofNat (zsb i).length)) :: (((List.range (zsb i).length).map fun j => Cond.eq (.elem (zfv i) (.int (Int32.ofNat j))) (.int ((zsb i).getD j 0))) ++ (List.range i).map fun j => Cond.not (.eq (ztm j) (ztm i)))
def zcAll : List Cond := zcT "TRAITS" zTRAITS ++ (zcT "TAKES" zTAKES ++ (zcT "LEAVES" zLEAVES ++ (List.range 13).flatMap zcS))
/-- in this order among what another list has -/
def zsubq : List Cond → List Cond → Bool
  | _, [] => true
  | [], _ :: _ => false
  | b :: m, a :: l => if a = b then zsubq m l else zsubq m (a :: l)
theorem zsubq_mem : ∀ (m l : List Cond), zsubq m l = true → ∀ c ∈ l, c ∈ m := by
  intro m
  induction m with
  | nil =>
    intro l h c hc
    cases l with
    | nil => cases hc
    | cons a l => cases h
  | cons b m ih =>
    intro l h c hc
    cases l with
    | nil => cases hc
    | cons a l =>
      unfold zsubq at h
      by_cases q : a = b
      · rw [if_pos q] at h
        rcases List.mem_cons.mp hc with e | e
        · rw [e, q]; exact List.mem_cons_self
        · exact List.mem_cons_of_mem _ (ih l h c e)
      · rw [if_neg q] at h
        exact List.mem_cons_of_mem _ (ih (a :: l) h c hc)
set_option maxRecDepth 100000 in
theorem zcAll_in : ∀ c ∈ zcAll, c ∈ flatC (Jvm.Cond.and given_1 narrow_1) := zsubq_mem _ _ (by decide +kernel)
theorem zA_lt (n : Nat) : ∀ a : Nat, a < n → ¬ zA n a := fun a h q => absurd h (Nat.not_lt.mpr q)
theorem zT_start {args : Array Value} {s : State} {n : String} {f : List Int32} (hf : f.length = 172) (hc : ∀ c ∈ zcT n f, c.before args s = true) (hl : (Cond.laysStatic "ForthHouse" n "[B").before args s = true) (hini : (Cond.initialized "ForthHouse").before args s = true) : ∃ t : Nat, va_T .byte t 172 (fun j => .int (f.getD j 0)) (zA s.heap.size) s s.heap ∧ va_Z "ForthHouse" n "[B" (.ref t) (zA s.heap.size) s s.heap := by
  have h1 := hc _ List.mem_cons_self
  have h2 := hc _ (List.mem_cons_of_mem _ List.mem_cons_self)
  have h3 : ∀ j : Nat, j < 172 → (Cond.eq (.elem (.static "ForthHouse" n "[B") (.int (Int32.ofNat j))) (.int (f.getD j 0))).before args s = true := fun j hj => hc _ (List.mem_cons_of_mem _ (List.mem_cons_of_mem _ (List.mem_map.mpr ⟨j, List.mem_range.mpr (by omega), rfl⟩)))
  rw [hf] at h2
  obtain ⟨t, ht, hT⟩ := va_Tof (N := 172) (f := fun j => .int (f.getD j 0)) (A := zA s.heap.size) (by decide) h1 (va_eqt h2) (fun j hj => va_eqt (h3 j hj)) (zA_lt _)
  exact ⟨t, hT, va_Zof hl hini ht (zA_lt _)⟩
theorem zst_len : ∀ i, i < 13 → (zstr.map List.length).getD i 0 = (zsb i).length ∧ (zsb i).length < 2 ^ 31 := by decide +kernel
theorem zstr_start {args : Array Value} {s : State} (hc : ∀ i, i < 13 → ∀ c ∈ zcS i, c.before args s = true) : ∃ adK adV : Nat → Nat, vk_S 13 (zstr.map List.length) zstr adK adV (zA s.heap.size) s s.heap ∧ ∀ i : Nat, i < 13 → (ztm i).eval args s none [] s = some (.ref (adK i)) := by
  have hno : ∀ i j, j < 13 → i < j → (Cond.not (.eq (ztm i) (ztm j))).before args s = true := fun i j hj hij => hc j hj _ (List.mem_cons_of_mem _ (List.mem_cons_of_mem _ (List.mem_cons_of_mem _ (List.mem_cons_of_mem _ (List.mem_append_right _ (List.mem_map.mpr ⟨i, List.mem_range.mpr hij, rfl⟩))))))
  refine vk_Sof (N := 13) (tm := ztm) (fun i hi => by rw [(zst_len i hi).1]; exact (zst_len i hi).2) (fun i hi => hc i hi _ List.mem_cons_self) (fun i hi => hc i hi _ (List.mem_cons_of_mem _ List.mem_cons_self)) (fun i hi => hc i hi _ (List.mem_cons_of_mem _ (List.mem_cons_of_mem _ List.mem_cons_self))) (fun i hi => ?_) (fun i hi j hj => ?_) (fun i j hi hj hij => ?_) (zA_lt _)
  · rw [(zst_len i hi).1]
    exact hc i hi _ (List.mem_cons_of_mem _ (List.mem_cons_of_mem _ (List.mem_cons_of_mem _ List.mem_cons_self)))
  · rw [(zst_len i hi).1] at hj
    exact hc i hi _ (List.mem_cons_of_mem _ (List.mem_cons_of_mem _ (List.mem_cons_of_mem _ (List.mem_cons_of_mem _ (List.mem_append_left _ (List.mem_map.mpr ⟨j, List.mem_range.mpr hj, rfl⟩))))))
  · rcases Nat.lt_or_gt_of_ne hij with q | q
    · exact Or.inl (hno i j hj q)
    · exact Or.inr (hno j i hi q)
theorem vk_S_congr {N : Nat} {len : List Nat} {byt : List (List Int32)} {k1 v1 k2 v2 : Nat → Nat} {A : Nat → Prop} {U : State} {H : Heap} (h : vk_S N len byt k1 v1 A U H) (hk : ∀ i, i < N → k2 i = k1 i) (hv : ∀ i, i < N → v2 i = v1 i) : vk_S N len byt k2 v2 A U H := by
  refine ⟨fun i hi => ?_, fun i j hi hj e => h.2 i j hi hj (by rw [← hk i hi, ← hk j hj]; exact e)⟩
  rw [hk i hi, hv i hi]
  exact h.1 i hi
/-- the outer objects' addresses -/
def zex (adK adV : Nat → Nat) (t13 t14 t15 b q : Nat) : Nat → Nat := fun k => if k < 13 then adK k else if k = 13 then t13 else if k = 14 then t14 else if k = 15 then t15 else if k = 16 then b else if k = 40 then q else adV (k - 20)
theorem zExt_start {p : Program} {s : State} {m : MethodId} {meth : Method} {c : Code} {b L : Nat} {xs : Nat → Int32} (C0 : lw_At p s m meth c b L xs) : ∃ (ex : Nat → Nat) (z : Nat), zExt s.heap.size ex (L, xs, z) s s.heap ∧ ex 16 = b ∧ (z = 0 ∨ z = 1) := by
  obtain ⟨hx, hb, hrt, hml, hown, hts, hX, hbl, hlk, hgv⟩ := C0
  have hg := flat_of_before _ hgv
  have hall : ∀ c ∈ zcAll, c.before #[Value.ref b] s = true := fun c hc => hg c (zcAll_in c hc)
  have inH : (Cond.initialized "ForthHouse").before #[Value.ref b] s = true := hts _ (ztb_of 262 (by decide +kernel))
  obtain ⟨t15, hT15, hZ15⟩ := zT_start (n := "TRAITS") (f := zTRAITS) (by decide +kernel) (fun c hc => hall c (List.mem_append_left _ hc)) (hts _ (ztb_of 519 (by decide +kernel))) inH
  obtain ⟨t13, hT13, hZ13⟩ := zT_start (n := "TAKES") (f := zTAKES) (by decide +kernel) (fun c hc => hall c (List.mem_append_right _ (List.mem_append_left _ hc))) (hts _ (ztb_of 1323 (by decide +kernel))) inH
  obtain ⟨t14, hT14, hZ14⟩ := zT_start (n := "LEAVES") (f := zLEAVES) (by decide +kernel) (fun c hc => hall c (List.mem_append_right _ (List.mem_append_right _ (List.mem_append_left _ hc)))) (hts _ (ztb_of 1325 (by decide +kernel))) inH
  obtain ⟨adK, adV, hS, hSe⟩ := zstr_start (args := #[Value.ref b]) (s := s) (fun i hi c hc => hall c (List.mem_append_right _ (List.mem_append_right _ (List.mem_append_right _ (List.mem_flatMap.mpr ⟨i, List.mem_range.mpr hi, hc⟩)))))
  have hC : va_Z "java/lang/String" "COMPACT_STRINGS" "Z" (.int 1) (zA s.heap.size) s s.heap := va_Zof (hts _ (ztb_of 479 (by decide +kernel))) (hts _ (ztb_of 268 (by decide +kernel))) (va_eqi (hg _ (by decide +kernel))) (zA_lt _)
  have hq := va_Zqof (C := "jdk/internal/util/Preconditions") (n := "SIOOBE_FORMATTER") (d := "Ljava/util/function/BiFunction;") (hts _ (ztb_of 495 (by decide +kernel))) (hts _ (ztb_of 270 (by decide +kernel))) (hg _ (by decide +kernel)) (zA_lt s.heap.size)
  have key : ∀ (z q : Nat), (va_Z "jdk/internal/util/Preconditions" "SIOOBE_FORMATTER" "Ljava/util/function/BiFunction;" (if z = 0 then .null else .ref q) (zA s.heap.size) s s.heap) → zExt s.heap.size (zex adK adV t13 t14 t15 b q) (L, xs, z) s s.heap := by
    intro z q hZ
    refine ⟨hX, hbl, ⟨hT13, hZ13⟩, ⟨hT14, hZ14⟩, ⟨hT15, hZ15⟩, fun w hw => ?_, va_AO.of (hts _ (ztb_of 291 (by decide +kernel))), va_AO.of (hts _ (ztb_of 896 (by decide +kernel))), fun o k r ho hr h7 => ?_, vk_S_congr hS (fun i hi => ?_) (fun i hi => ?_), hC, hZ⟩
    · have hz := (List.mem_filter.mp hw).2
      have hw2 := hts w (List.mem_filter.mp hw).1
      cases w <;> first | (exact va_Nw.of rfl hw2) | (simp at hz)
    · obtain ⟨e1, e2, e3⟩ := zs7 ho hr h7
      obtain ⟨tx, htx⟩ := zso_ok e1
      have ev := hSe _ e1
      unfold ztm at ev
      rw [e2, e3] at htx ev
      refine ⟨tx, ?_⟩
      have ee : zex adK adV t13 t14 t15 b q r.2.1 = adK r.2.1 := if_pos e1
      rw [ee]
      exact vk_R.of (hts _ htx) ev
    · exact if_pos hi
    · show (if 20 + i < 13 then adK (20 + i) else if 20 + i = 13 then t13 else if 20 + i = 14 then t14 else if 20 + i = 15 then t15 else if 20 + i = 16 then b else if 20 + i = 40 then q else adV (20 + i - 20)) = adV i
      rw [if_neg (by omega), if_neg (by omega), if_neg (by omega), if_neg (by omega), if_neg (by omega), if_neg (by omega), Nat.add_sub_cancel_left]
  rcases hq with hq | ⟨q, hq⟩
  · exact ⟨_, 0, key 0 0 hq, rfl, Or.inl rfl⟩
  · exact ⟨_, 1, key 1 q hq, rfl, Or.inr rfl⟩
