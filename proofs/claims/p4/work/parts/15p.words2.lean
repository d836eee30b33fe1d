theorem zob_push_lt {M : zM} {a : Nat} {e x : zE} (h : zob M a = some e) : zob (zpush M x) a = some e := by
  have h1 := zob_lt h
  unfold zob at h ⊢
  rw [if_pos h1] at h
  show (if a < M.1 + 1 then some (va_up M.2.2 M.1 x a) else none) = _
  rw [if_pos (by omega)]
  unfold va_up
  rw [if_neg (by omega)]
  exact h
theorem zob_push {M : zM} {x : zE} : zob (zpush M x) M.1 = some x := by
  unfold zob
  show (if M.1 < M.1 + 1 then some (va_up M.2.2 M.1 x M.1) else none) = _
  rw [if_pos (by omega)]
  unfold va_up
  rw [if_pos rfl]
theorem zr_newa {X : zX} {mt : Nat → Option zMe} {call : zCall} {r : zMe} {n pc k N : Nat} {ls : zL} {M : zM} {rest : List Value} {t : ArrayType} {m : Int32} {res : Option (Option Value × zM)} (htb : r.2.2.2.2.2.2.2 pc = some (.newarray t, 2)) (hk : zatype t = some k) (hm : ¬ m < 0) (hN : m.toNatClampNeg = N) (hM : M.1 < 1000000) (hby : N * componentBytes (zty k) ≤ 536870912) (h : zrun X mt call r n (pc + 2) ls (.ref M.1 :: rest) (zpush M (.inl (k, N, .inl (fun _ => 0)))) = res) : zrun X mt call r (n + 1) pc ls (.int m :: rest) M = res := by
  subst hN
  refine zr_s1 htb rfl rfl rfl ?_ h
  simp only [zs1, hk]
  rw [if_neg]
  intro z
  rcases z with z | z | z
  · exact hm z
  · exact z hM
  · exact z hby
theorem zr_objinit {X : zX} {mt : Nat → Option zMe} {call : zCall} {r : zMe} {n pc x a b p q : Nat} {ls : zL} {M : zM} {rest : List Value} {res : Option (Option Value × zM)} (htb : r.2.2.2.2.2.2.2 pc = some (.invokespecial x, 3)) (hlk : zlk r.2.2.2.2.2.1 x = some (9, a, b, p)) (hs : (rest.map fun v => v.category).sum ≤ 8) (h : zrun X mt call r n (pc + 3) ls rest M = res) : zrun X mt call r (n + 1) pc ls (.ref q :: rest) M = res := by
  refine zr_s1 htb rfl rfl rfl ?_ h
  simp only [zs1, hlk]
  rw [if_pos hs]
theorem zfit_null {ty : FieldType} (h : (∃ n, ty = .object n) ∨ ∃ t, ty = .array t) (a : Nat) : zfit ty (.ref a) = true := by
  rcases h with ⟨n, rfl⟩ | ⟨t, rfl⟩ <;> simp [zfit, narrow, fits]
def zwst (M : zM) (o j t n : Nat) (fs : List Value) : zM := zset (zpush M (.inl (t, n, .inl (fun _ => 0)))) o (.inr (10, fs.set j (.ref M.1)))
def zwf (b : Nat) : Nat → List Value
  | 0 => zdef 10 14
  | i + 1 => (zwf b i).set i (.ref (b + i))
def zwB0 (M : zM) (_ : Nat) : zM := M
def zwB1 (M : zM) (o : Nat) : zM := zwst (zwB0 M o) o 0 1 360 (zwf M.1 0)
def zwB2 (M : zM) (o : Nat) : zM := zwst (zwB1 M o) o 1 1 360 (zwf M.1 1)
def zwB3 (M : zM) (o : Nat) : zM := zwst (zwB2 M o) o 2 1 360 (zwf M.1 2)
def zwB4 (M : zM) (o : Nat) : zM := zwst (zwB3 M o) o 3 0 360 (zwf M.1 3)
def zwB5 (M : zM) (o : Nat) : zM := zwst (zwB4 M o) o 4 0 360 (zwf M.1 4)
def zwB6 (M : zM) (o : Nat) : zM := zwst (zwB5 M o) o 5 0 360 (zwf M.1 5)
def zwB7 (M : zM) (o : Nat) : zM := zwst (zwB6 M o) o 6 1 360 (zwf M.1 6)
def zwB8 (M : zM) (o : Nat) : zM := zwst (zwB7 M o) o 7 1 8640 (zwf M.1 7)
def zwB9 (M : zM) (o : Nat) : zM := zwst (zwB8 M o) o 8 1 360 (zwf M.1 8)
def zwB10 (M : zM) (o : Nat) : zM := zwst (zwB9 M o) o 9 0 360 (zwf M.1 9)
def zwB11 (M : zM) (o : Nat) : zM := zwst (zwB10 M o) o 10 0 360 (zwf M.1 10)
def zwB12 (M : zM) (o : Nat) : zM := zwst (zwB11 M o) o 11 0 360 (zwf M.1 11)
theorem zwB_0 {M : zM} {o : Nat} (h : zob M o = some (.inr (10, zdef 10 14))) : (zwB0 M o).1 = M.1 + 0 ∧ zob (zwB0 M o) o = some (.inr (10, zwf M.1 0)) := ⟨rfl, h⟩
theorem zwB_1 {M : zM} {o : Nat} (h : zob M o = some (.inr (10, zdef 10 14))) : (zwB1 M o).1 = M.1 + 1 ∧ zob (zwB1 M o) o = some (.inr (10, zwf M.1 1)) := ⟨by show (zwB0 M o).1 + 1 = _; rw [(zwB_0 h).1], by
  have h1 := zwB_0 h
  show zob (zset (zpush (zwB0 M o) _) o (.inr (10, (zwf M.1 0).set 0 (.ref (zwB0 M o).1)))) o = _
  rw [h1.1]
  exact zob_set (zob_push_lt h1.2)⟩
theorem zwB_2 {M : zM} {o : Nat} (h : zob M o = some (.inr (10, zdef 10 14))) : (zwB2 M o).1 = M.1 + 2 ∧ zob (zwB2 M o) o = some (.inr (10, zwf M.1 2)) := ⟨by show (zwB1 M o).1 + 1 = _; rw [(zwB_1 h).1], by
  have h1 := zwB_1 h
  show zob (zset (zpush (zwB1 M o) _) o (.inr (10, (zwf M.1 1).set 1 (.ref (zwB1 M o).1)))) o = _
  rw [h1.1]
  exact zob_set (zob_push_lt h1.2)⟩
theorem zwB_3 {M : zM} {o : Nat} (h : zob M o = some (.inr (10, zdef 10 14))) : (zwB3 M o).1 = M.1 + 3 ∧ zob (zwB3 M o) o = some (.inr (10, zwf M.1 3)) := ⟨by show (zwB2 M o).1 + 1 = _; rw [(zwB_2 h).1], by
  have h1 := zwB_2 h
  show zob (zset (zpush (zwB2 M o) _) o (.inr (10, (zwf M.1 2).set 2 (.ref (zwB2 M o).1)))) o = _
  rw [h1.1]
  exact zob_set (zob_push_lt h1.2)⟩
theorem zwB_4 {M : zM} {o : Nat} (h : zob M o = some (.inr (10, zdef 10 14))) : (zwB4 M o).1 = M.1 + 4 ∧ zob (zwB4 M o) o = some (.inr (10, zwf M.1 4)) := ⟨by show (zwB3 M o).1 + 1 = _; rw [(zwB_3 h).1], by
  have h1 := zwB_3 h
  show zob (zset (zpush (zwB3 M o) _) o (.inr (10, (zwf M.1 3).set 3 (.ref (zwB3 M o).1)))) o = _
  rw [h1.1]
  exact zob_set (zob_push_lt h1.2)⟩
theorem zwB_5 {M : zM} {o : Nat} (h : zob M o = some (.inr (10, zdef 10 14))) : (zwB5 M o).1 = M.1 + 5 ∧ zob (zwB5 M o) o = some (.inr (10, zwf M.1 5)) := ⟨by show (zwB4 M o).1 + 1 = _; rw [(zwB_4 h).1], by
  have h1 := zwB_4 h
  show zob (zset (zpush (zwB4 M o) _) o (.inr (10, (zwf M.1 4).set 4 (.ref (zwB4 M o).1)))) o = _
  rw [h1.1]
  exact zob_set (zob_push_lt h1.2)⟩
theorem zwB_6 {M : zM} {o : Nat} (h : zob M o = some (.inr (10, zdef 10 14))) : (zwB6 M o).1 = M.1 + 6 ∧ zob (zwB6 M o) o = some (.inr (10, zwf M.1 6)) := ⟨by show (zwB5 M o).1 + 1 = _; rw [(zwB_5 h).1], by
  have h1 := zwB_5 h
  show zob (zset (zpush (zwB5 M o) _) o (.inr (10, (zwf M.1 5).set 5 (.ref (zwB5 M o).1)))) o = _
  rw [h1.1]
  exact zob_set (zob_push_lt h1.2)⟩
theorem zwB_7 {M : zM} {o : Nat} (h : zob M o = some (.inr (10, zdef 10 14))) : (zwB7 M o).1 = M.1 + 7 ∧ zob (zwB7 M o) o = some (.inr (10, zwf M.1 7)) := ⟨by show (zwB6 M o).1 + 1 = _; rw [(zwB_6 h).1], by
  have h1 := zwB_6 h
  show zob (zset (zpush (zwB6 M o) _) o (.inr (10, (zwf M.1 6).set 6 (.ref (zwB6 M o).1)))) o = _
  rw [h1.1]
  exact zob_set (zob_push_lt h1.2)⟩
theorem zwB_8 {M : zM} {o : Nat} (h : zob M o = some (.inr (10, zdef 10 14))) : (zwB8 M o).1 = M.1 + 8 ∧ zob (zwB8 M o) o = some (.inr (10, zwf M.1 8)) := ⟨by show (zwB7 M o).1 + 1 = _; rw [(zwB_7 h).1], by
  have h1 := zwB_7 h
  show zob (zset (zpush (zwB7 M o) _) o (.inr (10, (zwf M.1 7).set 7 (.ref (zwB7 M o).1)))) o = _
  rw [h1.1]
  exact zob_set (zob_push_lt h1.2)⟩
theorem zwB_9 {M : zM} {o : Nat} (h : zob M o = some (.inr (10, zdef 10 14))) : (zwB9 M o).1 = M.1 + 9 ∧ zob (zwB9 M o) o = some (.inr (10, zwf M.1 9)) := ⟨by show (zwB8 M o).1 + 1 = _; rw [(zwB_8 h).1], by
  have h1 := zwB_8 h
  show zob (zset (zpush (zwB8 M o) _) o (.inr (10, (zwf M.1 8).set 8 (.ref (zwB8 M o).1)))) o = _
  rw [h1.1]
  exact zob_set (zob_push_lt h1.2)⟩
theorem zwB_10 {M : zM} {o : Nat} (h : zob M o = some (.inr (10, zdef 10 14))) : (zwB10 M o).1 = M.1 + 10 ∧ zob (zwB10 M o) o = some (.inr (10, zwf M.1 10)) := ⟨by show (zwB9 M o).1 + 1 = _; rw [(zwB_9 h).1], by
  have h1 := zwB_9 h
  show zob (zset (zpush (zwB9 M o) _) o (.inr (10, (zwf M.1 9).set 9 (.ref (zwB9 M o).1)))) o = _
  rw [h1.1]
  exact zob_set (zob_push_lt h1.2)⟩
theorem zwB_11 {M : zM} {o : Nat} (h : zob M o = some (.inr (10, zdef 10 14))) : (zwB11 M o).1 = M.1 + 11 ∧ zob (zwB11 M o) o = some (.inr (10, zwf M.1 11)) := ⟨by show (zwB10 M o).1 + 1 = _; rw [(zwB_10 h).1], by
  have h1 := zwB_10 h
  show zob (zset (zpush (zwB10 M o) _) o (.inr (10, (zwf M.1 10).set 10 (.ref (zwB10 M o).1)))) o = _
  rw [h1.1]
  exact zob_set (zob_push_lt h1.2)⟩
theorem zwB_12 {M : zM} {o : Nat} (h : zob M o = some (.inr (10, zdef 10 14))) : (zwB12 M o).1 = M.1 + 12 ∧ zob (zwB12 M o) o = some (.inr (10, zwf M.1 12)) := ⟨by show (zwB11 M o).1 + 1 = _; rw [(zwB_11 h).1], by
  have h1 := zwB_11 h
  show zob (zset (zpush (zwB11 M o) _) o (.inr (10, (zwf M.1 11).set 11 (.ref (zwB11 M o).1)))) o = _
  rw [h1.1]
  exact zob_set (zob_push_lt h1.2)⟩
theorem zwB_a1_2 {M : zM} {o : Nat} (h : zob M o = some (.inr (10, zdef 10 14))) : zob (zwB2 M o) (M.1 + 1) = some (.inl (1, 360, .inl (fun _ => 0))) := by
  have ho := zob_lt h
  have h1 := zwB_1 h
  show zob (zset (zpush (zwB1 M o) _) o _) _ = _
  rw [zob_set_ne (by omega)]
  rw [← h1.1]
  exact zob_push
theorem zwB_a1_3 {M : zM} {o : Nat} (h : zob M o = some (.inr (10, zdef 10 14))) : zob (zwB3 M o) (M.1 + 1) = some (.inl (1, 360, .inl (fun _ => 0))) := by
  have ho := zob_lt h
  have h1 := zwB_2 h
  show zob (zset (zpush (zwB2 M o) _) o _) _ = _
  rw [zob_set_ne (by omega)]
  exact zob_push_lt (zwB_a1_2 h)
theorem zwB_a1_4 {M : zM} {o : Nat} (h : zob M o = some (.inr (10, zdef 10 14))) : zob (zwB4 M o) (M.1 + 1) = some (.inl (1, 360, .inl (fun _ => 0))) := by
  have ho := zob_lt h
  have h1 := zwB_3 h
  show zob (zset (zpush (zwB3 M o) _) o _) _ = _
  rw [zob_set_ne (by omega)]
  exact zob_push_lt (zwB_a1_3 h)
theorem zwB_a1_5 {M : zM} {o : Nat} (h : zob M o = some (.inr (10, zdef 10 14))) : zob (zwB5 M o) (M.1 + 1) = some (.inl (1, 360, .inl (fun _ => 0))) := by
  have ho := zob_lt h
  have h1 := zwB_4 h
  show zob (zset (zpush (zwB4 M o) _) o _) _ = _
  rw [zob_set_ne (by omega)]
  exact zob_push_lt (zwB_a1_4 h)
theorem zwB_a1_6 {M : zM} {o : Nat} (h : zob M o = some (.inr (10, zdef 10 14))) : zob (zwB6 M o) (M.1 + 1) = some (.inl (1, 360, .inl (fun _ => 0))) := by
  have ho := zob_lt h
  have h1 := zwB_5 h
  show zob (zset (zpush (zwB5 M o) _) o _) _ = _
  rw [zob_set_ne (by omega)]
  exact zob_push_lt (zwB_a1_5 h)
theorem zwB_a1_7 {M : zM} {o : Nat} (h : zob M o = some (.inr (10, zdef 10 14))) : zob (zwB7 M o) (M.1 + 1) = some (.inl (1, 360, .inl (fun _ => 0))) := by
  have ho := zob_lt h
  have h1 := zwB_6 h
  show zob (zset (zpush (zwB6 M o) _) o _) _ = _
  rw [zob_set_ne (by omega)]
  exact zob_push_lt (zwB_a1_6 h)
theorem zwB_a1_8 {M : zM} {o : Nat} (h : zob M o = some (.inr (10, zdef 10 14))) : zob (zwB8 M o) (M.1 + 1) = some (.inl (1, 360, .inl (fun _ => 0))) := by
  have ho := zob_lt h
  have h1 := zwB_7 h
  show zob (zset (zpush (zwB7 M o) _) o _) _ = _
  rw [zob_set_ne (by omega)]
  exact zob_push_lt (zwB_a1_7 h)
theorem zwB_a1_9 {M : zM} {o : Nat} (h : zob M o = some (.inr (10, zdef 10 14))) : zob (zwB9 M o) (M.1 + 1) = some (.inl (1, 360, .inl (fun _ => 0))) := by
  have ho := zob_lt h
  have h1 := zwB_8 h
  show zob (zset (zpush (zwB8 M o) _) o _) _ = _
  rw [zob_set_ne (by omega)]
  exact zob_push_lt (zwB_a1_8 h)
theorem zwB_a1_10 {M : zM} {o : Nat} (h : zob M o = some (.inr (10, zdef 10 14))) : zob (zwB10 M o) (M.1 + 1) = some (.inl (1, 360, .inl (fun _ => 0))) := by
  have ho := zob_lt h
  have h1 := zwB_9 h
  show zob (zset (zpush (zwB9 M o) _) o _) _ = _
  rw [zob_set_ne (by omega)]
  exact zob_push_lt (zwB_a1_9 h)
theorem zwB_a1_11 {M : zM} {o : Nat} (h : zob M o = some (.inr (10, zdef 10 14))) : zob (zwB11 M o) (M.1 + 1) = some (.inl (1, 360, .inl (fun _ => 0))) := by
  have ho := zob_lt h
  have h1 := zwB_10 h
  show zob (zset (zpush (zwB10 M o) _) o _) _ = _
  rw [zob_set_ne (by omega)]
  exact zob_push_lt (zwB_a1_10 h)
theorem zwB_a1_12 {M : zM} {o : Nat} (h : zob M o = some (.inr (10, zdef 10 14))) : zob (zwB12 M o) (M.1 + 1) = some (.inl (1, 360, .inl (fun _ => 0))) := by
  have ho := zob_lt h
  have h1 := zwB_11 h
  show zob (zset (zpush (zwB11 M o) _) o _) _ = _
  rw [zob_set_ne (by omega)]
  exact zob_push_lt (zwB_a1_11 h)
theorem zwB_a2_3 {M : zM} {o : Nat} (h : zob M o = some (.inr (10, zdef 10 14))) : zob (zwB3 M o) (M.1 + 2) = some (.inl (1, 360, .inl (fun _ => 0))) := by
  have ho := zob_lt h
  have h1 := zwB_2 h
  show zob (zset (zpush (zwB2 M o) _) o _) _ = _
  rw [zob_set_ne (by omega)]
  rw [← h1.1]
  exact zob_push
theorem zwB_a2_4 {M : zM} {o : Nat} (h : zob M o = some (.inr (10, zdef 10 14))) : zob (zwB4 M o) (M.1 + 2) = some (.inl (1, 360, .inl (fun _ => 0))) := by
  have ho := zob_lt h
  have h1 := zwB_3 h
  show zob (zset (zpush (zwB3 M o) _) o _) _ = _
  rw [zob_set_ne (by omega)]
  exact zob_push_lt (zwB_a2_3 h)
theorem zwB_a2_5 {M : zM} {o : Nat} (h : zob M o = some (.inr (10, zdef 10 14))) : zob (zwB5 M o) (M.1 + 2) = some (.inl (1, 360, .inl (fun _ => 0))) := by
  have ho := zob_lt h
  have h1 := zwB_4 h
  show zob (zset (zpush (zwB4 M o) _) o _) _ = _
  rw [zob_set_ne (by omega)]
  exact zob_push_lt (zwB_a2_4 h)
theorem zwB_a2_6 {M : zM} {o : Nat} (h : zob M o = some (.inr (10, zdef 10 14))) : zob (zwB6 M o) (M.1 + 2) = some (.inl (1, 360, .inl (fun _ => 0))) := by
  have ho := zob_lt h
  have h1 := zwB_5 h
  show zob (zset (zpush (zwB5 M o) _) o _) _ = _
  rw [zob_set_ne (by omega)]
  exact zob_push_lt (zwB_a2_5 h)
theorem zwB_a2_7 {M : zM} {o : Nat} (h : zob M o = some (.inr (10, zdef 10 14))) : zob (zwB7 M o) (M.1 + 2) = some (.inl (1, 360, .inl (fun _ => 0))) := by
  have ho := zob_lt h
  have h1 := zwB_6 h
  show zob (zset (zpush (zwB6 M o) _) o _) _ = _
  rw [zob_set_ne (by omega)]
  exact zob_push_lt (zwB_a2_6 h)
theorem zwB_a2_8 {M : zM} {o : Nat} (h : zob M o = some (.inr (10, zdef 10 14))) : zob (zwB8 M o) (M.1 + 2) = some (.inl (1, 360, .inl (fun _ => 0))) := by
  have ho := zob_lt h
  have h1 := zwB_7 h
  show zob (zset (zpush (zwB7 M o) _) o _) _ = _
  rw [zob_set_ne (by omega)]
  exact zob_push_lt (zwB_a2_7 h)
theorem zwB_a2_9 {M : zM} {o : Nat} (h : zob M o = some (.inr (10, zdef 10 14))) : zob (zwB9 M o) (M.1 + 2) = some (.inl (1, 360, .inl (fun _ => 0))) := by
  have ho := zob_lt h
  have h1 := zwB_8 h
  show zob (zset (zpush (zwB8 M o) _) o _) _ = _
  rw [zob_set_ne (by omega)]
  exact zob_push_lt (zwB_a2_8 h)
theorem zwB_a2_10 {M : zM} {o : Nat} (h : zob M o = some (.inr (10, zdef 10 14))) : zob (zwB10 M o) (M.1 + 2) = some (.inl (1, 360, .inl (fun _ => 0))) := by
  have ho := zob_lt h
  have h1 := zwB_9 h
  show zob (zset (zpush (zwB9 M o) _) o _) _ = _
  rw [zob_set_ne (by omega)]
  exact zob_push_lt (zwB_a2_9 h)
theorem zwB_a2_11 {M : zM} {o : Nat} (h : zob M o = some (.inr (10, zdef 10 14))) : zob (zwB11 M o) (M.1 + 2) = some (.inl (1, 360, .inl (fun _ => 0))) := by
  have ho := zob_lt h
  have h1 := zwB_10 h
  show zob (zset (zpush (zwB10 M o) _) o _) _ = _
  rw [zob_set_ne (by omega)]
  exact zob_push_lt (zwB_a2_10 h)
theorem zwB_a2_12 {M : zM} {o : Nat} (h : zob M o = some (.inr (10, zdef 10 14))) : zob (zwB12 M o) (M.1 + 2) = some (.inl (1, 360, .inl (fun _ => 0))) := by
  have ho := zob_lt h
  have h1 := zwB_11 h
  show zob (zset (zpush (zwB11 M o) _) o _) _ = _
  rw [zob_set_ne (by omega)]
  exact zob_push_lt (zwB_a2_11 h)
theorem zwB_a5_6 {M : zM} {o : Nat} (h : zob M o = some (.inr (10, zdef 10 14))) : zob (zwB6 M o) (M.1 + 5) = some (.inl (0, 360, .inl (fun _ => 0))) := by
  have ho := zob_lt h
  have h1 := zwB_5 h
  show zob (zset (zpush (zwB5 M o) _) o _) _ = _
  rw [zob_set_ne (by omega)]
  rw [← h1.1]
  exact zob_push
theorem zwB_a5_7 {M : zM} {o : Nat} (h : zob M o = some (.inr (10, zdef 10 14))) : zob (zwB7 M o) (M.1 + 5) = some (.inl (0, 360, .inl (fun _ => 0))) := by
  have ho := zob_lt h
  have h1 := zwB_6 h
  show zob (zset (zpush (zwB6 M o) _) o _) _ = _
  rw [zob_set_ne (by omega)]
  exact zob_push_lt (zwB_a5_6 h)
theorem zwB_a5_8 {M : zM} {o : Nat} (h : zob M o = some (.inr (10, zdef 10 14))) : zob (zwB8 M o) (M.1 + 5) = some (.inl (0, 360, .inl (fun _ => 0))) := by
  have ho := zob_lt h
  have h1 := zwB_7 h
  show zob (zset (zpush (zwB7 M o) _) o _) _ = _
  rw [zob_set_ne (by omega)]
  exact zob_push_lt (zwB_a5_7 h)
theorem zwB_a5_9 {M : zM} {o : Nat} (h : zob M o = some (.inr (10, zdef 10 14))) : zob (zwB9 M o) (M.1 + 5) = some (.inl (0, 360, .inl (fun _ => 0))) := by
  have ho := zob_lt h
  have h1 := zwB_8 h
  show zob (zset (zpush (zwB8 M o) _) o _) _ = _
  rw [zob_set_ne (by omega)]
  exact zob_push_lt (zwB_a5_8 h)
theorem zwB_a5_10 {M : zM} {o : Nat} (h : zob M o = some (.inr (10, zdef 10 14))) : zob (zwB10 M o) (M.1 + 5) = some (.inl (0, 360, .inl (fun _ => 0))) := by
  have ho := zob_lt h
  have h1 := zwB_9 h
  show zob (zset (zpush (zwB9 M o) _) o _) _ = _
  rw [zob_set_ne (by omega)]
  exact zob_push_lt (zwB_a5_9 h)
theorem zwB_a5_11 {M : zM} {o : Nat} (h : zob M o = some (.inr (10, zdef 10 14))) : zob (zwB11 M o) (M.1 + 5) = some (.inl (0, 360, .inl (fun _ => 0))) := by
  have ho := zob_lt h
  have h1 := zwB_10 h
  show zob (zset (zpush (zwB10 M o) _) o _) _ = _
  rw [zob_set_ne (by omega)]
  exact zob_push_lt (zwB_a5_10 h)
theorem zwB_a5_12 {M : zM} {o : Nat} (h : zob M o = some (.inr (10, zdef 10 14))) : zob (zwB12 M o) (M.1 + 5) = some (.inl (0, 360, .inl (fun _ => 0))) := by
  have ho := zob_lt h
  have h1 := zwB_11 h
  show zob (zset (zpush (zwB11 M o) _) o _) _ = _
  rw [zob_set_ne (by omega)]
  exact zob_push_lt (zwB_a5_11 h)
theorem zwB_a6_7 {M : zM} {o : Nat} (h : zob M o = some (.inr (10, zdef 10 14))) : zob (zwB7 M o) (M.1 + 6) = some (.inl (1, 360, .inl (fun _ => 0))) := by
  have ho := zob_lt h
  have h1 := zwB_6 h
  show zob (zset (zpush (zwB6 M o) _) o _) _ = _
  rw [zob_set_ne (by omega)]
  rw [← h1.1]
  exact zob_push
theorem zwB_a6_8 {M : zM} {o : Nat} (h : zob M o = some (.inr (10, zdef 10 14))) : zob (zwB8 M o) (M.1 + 6) = some (.inl (1, 360, .inl (fun _ => 0))) := by
  have ho := zob_lt h
  have h1 := zwB_7 h
  show zob (zset (zpush (zwB7 M o) _) o _) _ = _
  rw [zob_set_ne (by omega)]
  exact zob_push_lt (zwB_a6_7 h)
theorem zwB_a6_9 {M : zM} {o : Nat} (h : zob M o = some (.inr (10, zdef 10 14))) : zob (zwB9 M o) (M.1 + 6) = some (.inl (1, 360, .inl (fun _ => 0))) := by
  have ho := zob_lt h
  have h1 := zwB_8 h
  show zob (zset (zpush (zwB8 M o) _) o _) _ = _
  rw [zob_set_ne (by omega)]
  exact zob_push_lt (zwB_a6_8 h)
theorem zwB_a6_10 {M : zM} {o : Nat} (h : zob M o = some (.inr (10, zdef 10 14))) : zob (zwB10 M o) (M.1 + 6) = some (.inl (1, 360, .inl (fun _ => 0))) := by
  have ho := zob_lt h
  have h1 := zwB_9 h
  show zob (zset (zpush (zwB9 M o) _) o _) _ = _
  rw [zob_set_ne (by omega)]
  exact zob_push_lt (zwB_a6_9 h)
theorem zwB_a6_11 {M : zM} {o : Nat} (h : zob M o = some (.inr (10, zdef 10 14))) : zob (zwB11 M o) (M.1 + 6) = some (.inl (1, 360, .inl (fun _ => 0))) := by
  have ho := zob_lt h
  have h1 := zwB_10 h
  show zob (zset (zpush (zwB10 M o) _) o _) _ = _
  rw [zob_set_ne (by omega)]
  exact zob_push_lt (zwB_a6_10 h)
theorem zwB_a6_12 {M : zM} {o : Nat} (h : zob M o = some (.inr (10, zdef 10 14))) : zob (zwB12 M o) (M.1 + 6) = some (.inl (1, 360, .inl (fun _ => 0))) := by
  have ho := zob_lt h
  have h1 := zwB_11 h
  show zob (zset (zpush (zwB11 M o) _) o _) _ = _
  rw [zob_set_ne (by omega)]
  exact zob_push_lt (zwB_a6_11 h)
theorem zwB_a7_8 {M : zM} {o : Nat} (h : zob M o = some (.inr (10, zdef 10 14))) : zob (zwB8 M o) (M.1 + 7) = some (.inl (1, 8640, .inl (fun _ => 0))) := by
  have ho := zob_lt h
  have h1 := zwB_7 h
  show zob (zset (zpush (zwB7 M o) _) o _) _ = _
  rw [zob_set_ne (by omega)]
  rw [← h1.1]
  exact zob_push
theorem zwB_a7_9 {M : zM} {o : Nat} (h : zob M o = some (.inr (10, zdef 10 14))) : zob (zwB9 M o) (M.1 + 7) = some (.inl (1, 8640, .inl (fun _ => 0))) := by
  have ho := zob_lt h
  have h1 := zwB_8 h
  show zob (zset (zpush (zwB8 M o) _) o _) _ = _
  rw [zob_set_ne (by omega)]
  exact zob_push_lt (zwB_a7_8 h)
theorem zwB_a7_10 {M : zM} {o : Nat} (h : zob M o = some (.inr (10, zdef 10 14))) : zob (zwB10 M o) (M.1 + 7) = some (.inl (1, 8640, .inl (fun _ => 0))) := by
  have ho := zob_lt h
  have h1 := zwB_9 h
  show zob (zset (zpush (zwB9 M o) _) o _) _ = _
  rw [zob_set_ne (by omega)]
  exact zob_push_lt (zwB_a7_9 h)
theorem zwB_a7_11 {M : zM} {o : Nat} (h : zob M o = some (.inr (10, zdef 10 14))) : zob (zwB11 M o) (M.1 + 7) = some (.inl (1, 8640, .inl (fun _ => 0))) := by
  have ho := zob_lt h
  have h1 := zwB_10 h
  show zob (zset (zpush (zwB10 M o) _) o _) _ = _
  rw [zob_set_ne (by omega)]
  exact zob_push_lt (zwB_a7_10 h)
theorem zwB_a7_12 {M : zM} {o : Nat} (h : zob M o = some (.inr (10, zdef 10 14))) : zob (zwB12 M o) (M.1 + 7) = some (.inl (1, 8640, .inl (fun _ => 0))) := by
  have ho := zob_lt h
  have h1 := zwB_11 h
  show zob (zset (zpush (zwB11 M o) _) o _) _ = _
  rw [zob_set_ne (by omega)]
  exact zob_push_lt (zwB_a7_11 h)
theorem zwM_self {M : zM} {o b : Nat} {s : zwS} (h0 : zob M o = some (.inr (10, zwF b s.1))) (h1 : zob M (b + 2) = some (.inl (1, 360, .inl s.2.1))) (h2 : zob M (b + 5) = some (.inl (0, 360, .inl s.2.2.1))) (h3 : zob M (b + 1) = some (.inl (1, 360, .inl s.2.2.2.1))) (h4 : zob M (b + 6) = some (.inl (1, 360, .inl s.2.2.2.2.1))) (h5 : zob M (b + 7) = some (.inl (1, 8640, .inl s.2.2.2.2.2))) : zwM M o b s = M := by
  have key : ∀ {a : Nat} {e : zE}, zob M a = some e → M.2.2 a = e := by
    intro a e h
    have h1 := zob_lt h
    unfold zob at h
    rw [if_pos h1] at h
    exact Option.some.inj h
  unfold zwM
  have : zwE M o b s = M.2.2 := by
    funext k
    unfold zwE
    split
    · rename_i q; rw [q, key h0]
    · split
      · rename_i q; rw [q, key h1]
      · split
        · rename_i q; rw [q, key h2]
        · split
          · rename_i q; rw [q, key h3]
          · split
            · rename_i q; rw [q, key h4]
            · split
              · rename_i q; rw [q, key h5]
              · rfl
  rw [this]
def zwS0 : zwS := (0, fun _ => 0, fun _ => 0, fun _ => 0, fun _ => 0, fun _ => 0)
def zwAll : Nat → zwS
  | 0 => zwS0
  | i + 1 => zal (zwAll i) (zsb i)
theorem zal_app (s : zwS) : ∀ (l : List Int32), (zal s l).1 = s.1 + (l.filter (fun c => decide (c = 32))).length := by
  intro l
  induction l generalizing s with
  | nil => rfl
  | cons c l ih =>
    show (zal (zal1 s c) l).1 = _
    rw [ih]
    obtain ⟨t, fL, fD, fF, fN, fM⟩ := s
    unfold zal1
    dsimp only
    by_cases h : c = 32
    · rw [if_pos h, List.filter_cons_of_pos (by simpa using h), List.length_cons]
      dsimp only
      omega
    · rw [if_neg h, List.filter_cons_of_neg (by simpa using h)]
/-- how long the word is that a line leaves open -/
def zrest : List Int32 → Nat → Nat
  | [], k => k
  | c :: cs, k => if c = 32 then zrest cs 0 else zrest cs (k + 1)
theorem zal_inv : ∀ (l : List Int32) (s : zwS) (k : Nat), zwInv s k → zgood l s.1 k = true → k < 24 → zwInv (zal s l) (zrest l k) := by
  intro l
  induction l with
  | nil => intro s k h _ _; exact h
  | cons c l ih =>
    intro s k hi hg hk
    obtain ⟨t, fL, fD, fF, fN, fM⟩ := s
    obtain ⟨hN, hN2⟩ := hi
    have hN : fN t = nI k := hN
    have hN2 : ∀ j, t < j → fN j = 0 := hN2
    have hg' : zgood (c :: l) t k = true := hg
    unfold zgood at hg'
    show zwInv (zal (zal1 _ c) l) _
    unfold zal1 zrest
    dsimp only
    by_cases h32 : c = 32
    · rw [if_pos h32, Bool.and_eq_true] at hg'
      rw [if_pos h32, if_pos h32]
      exact ih _ 0 ⟨hN2 (t + 1) (by omega), fun j hj => hN2 j (by have : t + 1 < j := hj; omega)⟩ hg'.2 (by omega)
    · rw [if_neg h32, Bool.and_eq_true, Bool.and_eq_true] at hg'
      rw [if_neg h32, if_neg h32]
      have hk2 : k < 23 := Nat.le_of_ble_eq_true hg'.1.2
      have hv : vp_nar .byte ((fN t + Int32.ofInt 1).toInt8.toInt32) = nI (k + 1) := by
        rw [hN]
        exact zw_len k hk2
      refine ih _ (k + 1) ⟨?_, fun j hj => ?_⟩ hg'.2 (by omega)
      · show upd fN t _ t = nI (k + 1)
        unfold upd
        rw [if_pos rfl, hv]
      · have hj : t < j := hj
        show upd fN t _ j = 0
        unfold upd
        rw [if_neg (by omega)]
        exact hN2 j hj
