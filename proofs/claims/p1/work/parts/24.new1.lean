/-! calls of a new object that answer at once (by gen24.py) -/
theorem zc_ltge {x y : Int32} (h1 : zcI .lt x y = false) (h2 : zcI .ge x y = false) {p : Prop} : p := by
  have e1 := of_decide_eq_false h1
  have e2 := of_decide_eq_false h2
  rw [Int32.lt_iff_toInt_lt] at e1
  rw [Int32.le_iff_toInt_le] at e2
  omega
theorem zr_putS {X : zX} {mt : Nat → Option zMe} {call : zCall} {r : zMe} {n pc : Nat} {ls : zL} {rest : List Value} {M : zM} {res : Option (Option Value × zM)} {x ci k q a : Nat} {fs : List Value} {v : Value} {w : vw_C} (htb : r.2.2.2.2.2.2.2 pc = some (.putfield x, 3)) (hlk : zlk r.2.2.2.2.2.1 x = some (0, ci, k, q)) (hob : zob M a = some (.inr (ci, fs))) (hw : zcls[ci]? = some w) (hc : k < fs.length ∧ k < w.2.2 ∧ zfit (zfty ci k) v = true ∧ ((w.2.1 k).2.2.2 = false ∨ ((r.2.2.2.2.2.2.1 == 2) = true ∧ (w.2.1 k).1 = zown r.2.2.2.2.2.1))) (he : fs.set k v = fs) (h : zrun X mt call r n (pc + 3) ls rest M = res) : zrun X mt call r (n + 1) pc ls (v :: .ref a :: rest) M = res := by
  refine zr_put htb hlk hob hw hc ?_
  rw [he, zset_self hob]
  exact h
section ZNEW
variable {X : zX} {call : zCall} {M : zM} {f4 f475 : Nat → Int32}
theorem x_wipe (h0 : zob M 0 = some (.inr (11, zf_0))) {n : Nat} : zrun X zmt call zm_255 (n + 8) 0 [(0, .ref 0)] [] M = some (some (.int 0), M) := by
  refine zr_s0 rfl rfl rfl rfl ?_
  refine zr_get rfl rfl h0 rfl ?_
  refine zr_s0 rfl rfl rfl rfl ?_
  refine zr_s0 rfl rfl rfl rfl ?_
  refine zr_s0 rfl rfl rfl rfl ?_
  refine zr_putS rfl rfl h0 rfl ⟨Nat.le_of_ble_eq_true rfl, Nat.le_of_ble_eq_true rfl, zfit_int _, Or.inl rfl⟩ rfl ?_
  refine zr_s0 rfl rfl rfl rfl ?_
  exact zr_ret rfl rfl rfl
theorem x_systemOf {va : Int32}(h0 : zob M 0 = some (.inr (11, zf_0))) {n : Nat} : zrun X zmt call zm_284 (n + 9) 0 [(0, .ref 0), (1, .int va)] [] M = some (some .null, M) := by
  refine zr_s0 rfl rfl rfl rfl ?_
  refine zr_if (t := 12) rfl rfl (fun h1 => ?_) (fun h1 => ?_)
  · refine zr_s0 rfl rfl rfl rfl ?_
    refine zr_s0 rfl rfl rfl rfl ?_
    exact zr_ret rfl rfl rfl
  · refine zr_s0 rfl rfl rfl rfl ?_
    refine zr_s0 rfl rfl rfl rfl ?_
    refine zr_get rfl rfl h0 rfl ?_
    refine zr_icmp (t := 16) rfl rfl (fun h => Bool.noConfusion (h1.symm.trans h)) (fun h9 => ?_)
    refine zr_s0 rfl rfl rfl rfl ?_
    refine zr_s0 rfl rfl rfl rfl ?_
    exact zr_ret rfl rfl rfl
theorem x_taskOf {va vb : Int32}(h0 : zob M 0 = some (.inr (11, zf_0)))(hsys : ∀ v, call 284 [.ref 0, .int v] M = some (some .null, M)) {n : Nat} : zrun X zmt call zm_285 (n + 9) 0 [(0, .ref 0), (1, .int va), (2, .int vb)] [] M = some (some .null, M) := by
  refine zr_s0 rfl rfl rfl rfl ?_
  refine zr_s0 rfl rfl rfl rfl ?_
  refine zr_callV rfl rfl rfl rfl (by decide) h0 rfl ⟨Or.inl rfl, rfl, rfl, rfl, rfl, rfl, Nat.le_of_ble_eq_true rfl⟩ (hsys _) ?_
  refine zr_s0 rfl rfl rfl rfl ?_
  refine zr_s0 rfl rfl rfl rfl ?_
  refine zr_s0 rfl rfl rfl rfl ?_
  refine zr_s0 rfl rfl rfl rfl ?_
  refine zr_s0 rfl rfl rfl rfl ?_
  exact zr_ret rfl rfl rfl
theorem x_evaluate {va vb : Int32}(h0 : zob M 0 = some (.inr (11, zf_0)))(hsys : ∀ v, call 284 [.ref 0, .int v] M = some (some .null, M))(hw : call 255 [.ref 0] M = some (some (.int 0), M))(htk : ∀ v w, call 285 [.ref 0, .int v, .int w] M = some (some .null, M)) {n : Nat} : zrun X zmt call zm_257 (n + 11) 0 [(0, .ref 0), (1, .int va), (2, .int vb)] [] M = some (some (.int (-2)), M) := by
  refine zr_s0 rfl rfl rfl rfl ?_
  refine zr_callV rfl rfl rfl rfl (by decide) h0 rfl ⟨Or.inl rfl, rfl, rfl, rfl, rfl, rfl, Nat.le_of_ble_eq_true rfl⟩ hw ?_
  refine zr_s0 rfl rfl rfl rfl ?_
  refine zr_s0 rfl rfl rfl rfl ?_
  refine zr_s0 rfl rfl rfl rfl ?_
  refine zr_callV rfl rfl rfl rfl (by decide) h0 rfl ⟨Or.inl rfl, rfl, rfl, rfl, rfl, rfl, Nat.le_of_ble_eq_true rfl⟩ (hsys _) ?_
  refine zr_s0 rfl rfl rfl rfl ?_
  refine zr_s0 rfl rfl rfl rfl ?_
  refine zr_s0 rfl rfl rfl rfl ?_
  refine zr_s0 rfl rfl rfl rfl ?_
  exact zr_ret rfl rfl rfl
theorem x_go {va vb : Int32}(h0 : zob M 0 = some (.inr (11, zf_0)))(hsys : ∀ v, call 284 [.ref 0, .int v] M = some (some .null, M))(hw : call 255 [.ref 0] M = some (some (.int 0), M))(htk : ∀ v w, call 285 [.ref 0, .int v, .int w] M = some (some .null, M)) {n : Nat} : zrun X zmt call zm_258 (n + 8) 0 [(0, .ref 0), (1, .int va), (2, .int vb)] [] M = some (some (.int (-2)), M) := by
  refine zr_s0 rfl rfl rfl rfl ?_
  refine zr_s0 rfl rfl rfl rfl ?_
  refine zr_callV rfl rfl rfl rfl (by decide) h0 rfl ⟨Or.inl rfl, rfl, rfl, rfl, rfl, rfl, Nat.le_of_ble_eq_true rfl⟩ (hsys _) ?_
  refine zr_s0 rfl rfl rfl rfl ?_
  refine zr_s0 rfl rfl rfl rfl ?_
  refine zr_s0 rfl rfl rfl rfl ?_
  refine zr_s0 rfl rfl rfl rfl ?_
  exact zr_ret rfl rfl rfl
theorem x_out {va vb : Int32}(h0 : zob M 0 = some (.inr (11, zf_0)))(hsys : ∀ v, call 284 [.ref 0, .int v] M = some (some .null, M))(hw : call 255 [.ref 0] M = some (some (.int 0), M))(htk : ∀ v w, call 285 [.ref 0, .int v, .int w] M = some (some .null, M)) {n : Nat} : zrun X zmt call zm_259 (n + 9) 0 [(0, .ref 0), (1, .int va), (2, .int vb)] [] M = some (some (.int (-2)), M) := by
  refine zr_s0 rfl rfl rfl rfl ?_
  refine zr_s0 rfl rfl rfl rfl ?_
  refine zr_callV rfl rfl rfl rfl (by decide) h0 rfl ⟨Or.inl rfl, rfl, rfl, rfl, rfl, rfl, Nat.le_of_ble_eq_true rfl⟩ (hsys _) ?_
  refine zr_s0 rfl rfl rfl rfl ?_
  refine zr_s0 rfl rfl rfl rfl ?_
  refine zr_s0 rfl rfl rfl rfl ?_
  refine zr_s0 rfl rfl rfl rfl ?_
  refine zr_s0 rfl rfl rfl rfl ?_
  exact zr_ret rfl rfl rfl
theorem x_count {va vb : Int32}(h0 : zob M 0 = some (.inr (11, zf_0)))(hsys : ∀ v, call 284 [.ref 0, .int v] M = some (some .null, M))(hw : call 255 [.ref 0] M = some (some (.int 0), M))(htk : ∀ v w, call 285 [.ref 0, .int v, .int w] M = some (some .null, M)) {n : Nat} : zrun X zmt call zm_260 (n + 9) 0 [(0, .ref 0), (1, .int va), (2, .int vb)] [] M = some (some (.int (-2)), M) := by
  refine zr_s0 rfl rfl rfl rfl ?_
  refine zr_s0 rfl rfl rfl rfl ?_
  refine zr_callV rfl rfl rfl rfl (by decide) h0 rfl ⟨Or.inl rfl, rfl, rfl, rfl, rfl, rfl, Nat.le_of_ble_eq_true rfl⟩ (hsys _) ?_
  refine zr_s0 rfl rfl rfl rfl ?_
  refine zr_s0 rfl rfl rfl rfl ?_
  refine zr_s0 rfl rfl rfl rfl ?_
  refine zr_s0 rfl rfl rfl rfl ?_
  refine zr_s0 rfl rfl rfl rfl ?_
  exact zr_ret rfl rfl rfl
theorem x_thrown {va vb : Int32}(h0 : zob M 0 = some (.inr (11, zf_0)))(hsys : ∀ v, call 284 [.ref 0, .int v] M = some (some .null, M))(hw : call 255 [.ref 0] M = some (some (.int 0), M))(htk : ∀ v w, call 285 [.ref 0, .int v, .int w] M = some (some .null, M)) {n : Nat} : zrun X zmt call zm_261 (n + 8) 0 [(0, .ref 0), (1, .int va), (2, .int vb)] [] M = some (some (.int (-2)), M) := by
  refine zr_s0 rfl rfl rfl rfl ?_
  refine zr_s0 rfl rfl rfl rfl ?_
  refine zr_callV rfl rfl rfl rfl (by decide) h0 rfl ⟨Or.inl rfl, rfl, rfl, rfl, rfl, rfl, Nat.le_of_ble_eq_true rfl⟩ (hsys _) ?_
  refine zr_s0 rfl rfl rfl rfl ?_
  refine zr_s0 rfl rfl rfl rfl ?_
  refine zr_s0 rfl rfl rfl rfl ?_
  refine zr_s0 rfl rfl rfl rfl ?_
  exact zr_ret rfl rfl rfl
theorem x_depth {va vb vc : Int32}(h0 : zob M 0 = some (.inr (11, zf_0)))(hsys : ∀ v, call 284 [.ref 0, .int v] M = some (some .null, M))(hw : call 255 [.ref 0] M = some (some (.int 0), M))(htk : ∀ v w, call 285 [.ref 0, .int v, .int w] M = some (some .null, M)) {n : Nat} : zrun X zmt call zm_262 (n + 10) 0 [(0, .ref 0), (1, .int va), (2, .int vb), (3, .int vc)] [] M = some (some (.int (-2)), M) := by
  refine zr_s0 rfl rfl rfl rfl ?_
  refine zr_s0 rfl rfl rfl rfl ?_
  refine zr_s0 rfl rfl rfl rfl ?_
  refine zr_callV rfl rfl rfl rfl (by decide) h0 rfl ⟨Or.inl rfl, rfl, rfl, rfl, rfl, rfl, Nat.le_of_ble_eq_true rfl⟩ (htk _ _) ?_
  refine zr_s0 rfl rfl rfl rfl ?_
  refine zr_s0 rfl rfl rfl rfl ?_
  refine zr_s0 rfl rfl rfl rfl ?_
  refine zr_s0 rfl rfl rfl rfl ?_
  refine zr_s0 rfl rfl rfl rfl ?_
  exact zr_ret rfl rfl rfl
theorem x_cell {va vb vc vd : Int32}(h0 : zob M 0 = some (.inr (11, zf_0)))(hsys : ∀ v, call 284 [.ref 0, .int v] M = some (some .null, M))(hw : call 255 [.ref 0] M = some (some (.int 0), M))(htk : ∀ v w, call 285 [.ref 0, .int v, .int w] M = some (some .null, M)) {n : Nat} : zrun X zmt call zm_263 (n + 10) 0 [(0, .ref 0), (1, .int va), (2, .int vb), (3, .int vc), (4, .int vd)] [] M = some (some (.int (-2)), M) := by
  refine zr_s0 rfl rfl rfl rfl ?_
  refine zr_s0 rfl rfl rfl rfl ?_
  refine zr_s0 rfl rfl rfl rfl ?_
  refine zr_callV rfl rfl rfl rfl (by decide) h0 rfl ⟨Or.inl rfl, rfl, rfl, rfl, rfl, rfl, Nat.le_of_ble_eq_true rfl⟩ (htk _ _) ?_
  refine zr_s0 rfl rfl rfl rfl ?_
  refine zr_s0 rfl rfl rfl rfl ?_
  refine zr_s0 rfl rfl rfl rfl ?_
  refine zr_s0 rfl rfl rfl rfl ?_
  refine zr_s0 rfl rfl rfl rfl ?_
  exact zr_ret rfl rfl rfl
theorem x_task {va vb : Int32}(h0 : zob M 0 = some (.inr (11, zf_0)))(hsys : ∀ v, call 284 [.ref 0, .int v] M = some (some .null, M))(hw : call 255 [.ref 0] M = some (some (.int 0), M))(htk : ∀ v w, call 285 [.ref 0, .int v, .int w] M = some (some .null, M)) {n : Nat} : zrun X zmt call zm_264 (n + 9) 0 [(0, .ref 0), (1, .int va), (2, .int vb)] [] M = some (some (.int (-2)), M) := by
  refine zr_s0 rfl rfl rfl rfl ?_
  refine zr_s0 rfl rfl rfl rfl ?_
  refine zr_s0 rfl rfl rfl rfl ?_
  refine zr_callV rfl rfl rfl rfl (by decide) h0 rfl ⟨Or.inl rfl, rfl, rfl, rfl, rfl, rfl, Nat.le_of_ble_eq_true rfl⟩ (htk _ _) ?_
  refine zr_s0 rfl rfl rfl rfl ?_
  refine zr_s0 rfl rfl rfl rfl ?_
  refine zr_s0 rfl rfl rfl rfl ?_
  refine zr_s0 rfl rfl rfl rfl ?_
  exact zr_ret rfl rfl rfl
theorem x_fetch {va vb vc : Int32}(h0 : zob M 0 = some (.inr (11, zf_0)))(hsys : ∀ v, call 284 [.ref 0, .int v] M = some (some .null, M))(hw : call 255 [.ref 0] M = some (some (.int 0), M))(htk : ∀ v w, call 285 [.ref 0, .int v, .int w] M = some (some .null, M)) {n : Nat} : zrun X zmt call zm_265 (n + 8) 0 [(0, .ref 0), (1, .int va), (2, .int vb), (3, .int vc)] [] M = some (some (.int (-2)), M) := by
  refine zr_s0 rfl rfl rfl rfl ?_
  refine zr_s0 rfl rfl rfl rfl ?_
  refine zr_callV rfl rfl rfl rfl (by decide) h0 rfl ⟨Or.inl rfl, rfl, rfl, rfl, rfl, rfl, Nat.le_of_ble_eq_true rfl⟩ (hsys _) ?_
  refine zr_s0 rfl rfl rfl rfl ?_
  refine zr_s0 rfl rfl rfl rfl ?_
  refine zr_s0 rfl rfl rfl rfl ?_
  refine zr_s0 rfl rfl rfl rfl ?_
  exact zr_ret rfl rfl rfl
theorem x_find {va : Int32}(h0 : zob M 0 = some (.inr (11, zf_0)))(hsys : ∀ v, call 284 [.ref 0, .int v] M = some (some .null, M))(hw : call 255 [.ref 0] M = some (some (.int 0), M))(htk : ∀ v w, call 285 [.ref 0, .int v, .int w] M = some (some .null, M)) {n : Nat} : zrun X zmt call zm_266 (n + 12) 0 [(0, .ref 0), (1, .int va)] [] M = some (some (.int (-2)), M) := by
  refine zr_s0 rfl rfl rfl rfl ?_
  refine zr_callV rfl rfl rfl rfl (by decide) h0 rfl ⟨Or.inl rfl, rfl, rfl, rfl, rfl, rfl, Nat.le_of_ble_eq_true rfl⟩ hw ?_
  refine zr_s0 rfl rfl rfl rfl ?_
  refine zr_s0 rfl rfl rfl rfl ?_
  refine zr_s0 rfl rfl rfl rfl ?_
  refine zr_callV rfl rfl rfl rfl (by decide) h0 rfl ⟨Or.inl rfl, rfl, rfl, rfl, rfl, rfl, Nat.le_of_ble_eq_true rfl⟩ (hsys _) ?_
  refine zr_s0 rfl rfl rfl rfl ?_
  refine zr_s0 rfl rfl rfl rfl ?_
  refine zr_s0 rfl rfl rfl rfl ?_
  refine zr_s0 rfl rfl rfl rfl ?_
  refine zr_s0 rfl rfl rfl rfl ?_
  exact zr_ret rfl rfl rfl
theorem x_word {va vb vc : Int32}(h0 : zob M 0 = some (.inr (11, zf_0)))(hsys : ∀ v, call 284 [.ref 0, .int v] M = some (some .null, M))(hw : call 255 [.ref 0] M = some (some (.int 0), M))(htk : ∀ v w, call 285 [.ref 0, .int v, .int w] M = some (some .null, M)) {n : Nat} : zrun X zmt call zm_267 (n + 9) 0 [(0, .ref 0), (1, .int va), (2, .int vb), (3, .int vc)] [] M = some (some (.int (-2)), M) := by
  refine zr_s0 rfl rfl rfl rfl ?_
  refine zr_s0 rfl rfl rfl rfl ?_
  refine zr_callV rfl rfl rfl rfl (by decide) h0 rfl ⟨Or.inl rfl, rfl, rfl, rfl, rfl, rfl, Nat.le_of_ble_eq_true rfl⟩ (hsys _) ?_
  refine zr_s0 rfl rfl rfl rfl ?_
  refine zr_s0 rfl rfl rfl rfl ?_
  refine zr_s0 rfl rfl rfl rfl ?_
  refine zr_s0 rfl rfl rfl rfl ?_
  refine zr_s0 rfl rfl rfl rfl ?_
  exact zr_ret rfl rfl rfl
theorem x_name {va vb vc : Int32}(h0 : zob M 0 = some (.inr (11, zf_0)))(hsys : ∀ v, call 284 [.ref 0, .int v] M = some (some .null, M))(hw : call 255 [.ref 0] M = some (some (.int 0), M))(htk : ∀ v w, call 285 [.ref 0, .int v, .int w] M = some (some .null, M)) {n : Nat} : zrun X zmt call zm_268 (n + 9) 0 [(0, .ref 0), (1, .int va), (2, .int vb), (3, .int vc)] [] M = some (some (.int (-2)), M) := by
  refine zr_s0 rfl rfl rfl rfl ?_
  refine zr_s0 rfl rfl rfl rfl ?_
  refine zr_callV rfl rfl rfl rfl (by decide) h0 rfl ⟨Or.inl rfl, rfl, rfl, rfl, rfl, rfl, Nat.le_of_ble_eq_true rfl⟩ (hsys _) ?_
  refine zr_s0 rfl rfl rfl rfl ?_
  refine zr_s0 rfl rfl rfl rfl ?_
  refine zr_s0 rfl rfl rfl rfl ?_
  refine zr_s0 rfl rfl rfl rfl ?_
  refine zr_s0 rfl rfl rfl rfl ?_
  exact zr_ret rfl rfl rfl
theorem x_item {va vb vc : Int32}(h0 : zob M 0 = some (.inr (11, zf_0)))(hsys : ∀ v, call 284 [.ref 0, .int v] M = some (some .null, M))(hw : call 255 [.ref 0] M = some (some (.int 0), M))(htk : ∀ v w, call 285 [.ref 0, .int v, .int w] M = some (some .null, M)) {n : Nat} : zrun X zmt call zm_269 (n + 8) 0 [(0, .ref 0), (1, .int va), (2, .int vb), (3, .int vc)] [] M = some (some (.int (-2)), M) := by
  refine zr_s0 rfl rfl rfl rfl ?_
  refine zr_s0 rfl rfl rfl rfl ?_
  refine zr_callV rfl rfl rfl rfl (by decide) h0 rfl ⟨Or.inl rfl, rfl, rfl, rfl, rfl, rfl, Nat.le_of_ble_eq_true rfl⟩ (hsys _) ?_
  refine zr_s0 rfl rfl rfl rfl ?_
  refine zr_s0 rfl rfl rfl rfl ?_
  refine zr_s0 rfl rfl rfl rfl ?_
  refine zr_s0 rfl rfl rfl rfl ?_
  exact zr_ret rfl rfl rfl
theorem x_effect {va vb : Int32}(h0 : zob M 0 = some (.inr (11, zf_0)))(hsys : ∀ v, call 284 [.ref 0, .int v] M = some (some .null, M))(hw : call 255 [.ref 0] M = some (some (.int 0), M))(htk : ∀ v w, call 285 [.ref 0, .int v, .int w] M = some (some .null, M)) {n : Nat} : zrun X zmt call zm_270 (n + 8) 0 [(0, .ref 0), (1, .int va), (2, .int vb)] [] M = some (some (.int (-2)), M) := by
  refine zr_s0 rfl rfl rfl rfl ?_
  refine zr_s0 rfl rfl rfl rfl ?_
  refine zr_callV rfl rfl rfl rfl (by decide) h0 rfl ⟨Or.inl rfl, rfl, rfl, rfl, rfl, rfl, Nat.le_of_ble_eq_true rfl⟩ (hsys _) ?_
  refine zr_s0 rfl rfl rfl rfl ?_
  refine zr_s0 rfl rfl rfl rfl ?_
  refine zr_s0 rfl rfl rfl rfl ?_
  refine zr_s0 rfl rfl rfl rfl ?_
  exact zr_ret rfl rfl rfl
theorem x_effectOf {va vb vc : Int32}(h0 : zob M 0 = some (.inr (11, zf_0)))(hsys : ∀ v, call 284 [.ref 0, .int v] M = some (some .null, M))(hw : call 255 [.ref 0] M = some (some (.int 0), M))(htk : ∀ v w, call 285 [.ref 0, .int v, .int w] M = some (some .null, M)) {n : Nat} : zrun X zmt call zm_271 (n + 8) 0 [(0, .ref 0), (1, .int va), (2, .int vb), (3, .int vc)] [] M = some (some (.int (-2)), M) := by
  refine zr_s0 rfl rfl rfl rfl ?_
  refine zr_s0 rfl rfl rfl rfl ?_
  refine zr_callV rfl rfl rfl rfl (by decide) h0 rfl ⟨Or.inl rfl, rfl, rfl, rfl, rfl, rfl, Nat.le_of_ble_eq_true rfl⟩ (hsys _) ?_
  refine zr_s0 rfl rfl rfl rfl ?_
  refine zr_s0 rfl rfl rfl rfl ?_
  refine zr_s0 rfl rfl rfl rfl ?_
  refine zr_s0 rfl rfl rfl rfl ?_
  exact zr_ret rfl rfl rfl
theorem x_lean {va vb : Int32}(h0 : zob M 0 = some (.inr (11, zf_0)))(hsys : ∀ v, call 284 [.ref 0, .int v] M = some (some .null, M))(hw : call 255 [.ref 0] M = some (some (.int 0), M))(htk : ∀ v w, call 285 [.ref 0, .int v, .int w] M = some (some .null, M)) {n : Nat} : zrun X zmt call zm_272 (n + 8) 0 [(0, .ref 0), (1, .int va), (2, .int vb)] [] M = some (some (.int (-2)), M) := by
  refine zr_s0 rfl rfl rfl rfl ?_
  refine zr_s0 rfl rfl rfl rfl ?_
  refine zr_callV rfl rfl rfl rfl (by decide) h0 rfl ⟨Or.inl rfl, rfl, rfl, rfl, rfl, rfl, Nat.le_of_ble_eq_true rfl⟩ (hsys _) ?_
  refine zr_s0 rfl rfl rfl rfl ?_
  refine zr_s0 rfl rfl rfl rfl ?_
  refine zr_s0 rfl rfl rfl rfl ?_
  refine zr_s0 rfl rfl rfl rfl ?_
  exact zr_ret rfl rfl rfl
theorem x_chip {va vb : Int32}(h0 : zob M 0 = some (.inr (11, zf_0)))(hsys : ∀ v, call 284 [.ref 0, .int v] M = some (some .null, M))(hw : call 255 [.ref 0] M = some (some (.int 0), M))(htk : ∀ v w, call 285 [.ref 0, .int v, .int w] M = some (some .null, M)) {n : Nat} : zrun X zmt call zm_273 (n + 8) 0 [(0, .ref 0), (1, .int va), (2, .int vb)] [] M = some (some (.int (-2)), M) := by
  refine zr_s0 rfl rfl rfl rfl ?_
  refine zr_s0 rfl rfl rfl rfl ?_
  refine zr_callV rfl rfl rfl rfl (by decide) h0 rfl ⟨Or.inl rfl, rfl, rfl, rfl, rfl, rfl, Nat.le_of_ble_eq_true rfl⟩ (hsys _) ?_
  refine zr_s0 rfl rfl rfl rfl ?_
  refine zr_s0 rfl rfl rfl rfl ?_
  refine zr_s0 rfl rfl rfl rfl ?_
  refine zr_s0 rfl rfl rfl rfl ?_
  exact zr_ret rfl rfl rfl
theorem x_put {va vb vc : Int32}(h0 : zob M 0 = some (.inr (11, zf_0)))(hsys : ∀ v, call 284 [.ref 0, .int v] M = some (some .null, M))(hw : call 255 [.ref 0] M = some (some (.int 0), M))(htk : ∀ v w, call 285 [.ref 0, .int v, .int w] M = some (some .null, M)) {n : Nat} : zrun X zmt call zm_280 (n + 11) 0 [(0, .ref 0), (1, .int va), (2, .int vb), (3, .int vc)] [] M = some (some (.int (-2)), M) := by
  refine zr_s0 rfl rfl rfl rfl ?_
  refine zr_callV rfl rfl rfl rfl (by decide) h0 rfl ⟨Or.inl rfl, rfl, rfl, rfl, rfl, rfl, Nat.le_of_ble_eq_true rfl⟩ hw ?_
  refine zr_s0 rfl rfl rfl rfl ?_
  refine zr_s0 rfl rfl rfl rfl ?_
  refine zr_s0 rfl rfl rfl rfl ?_
  refine zr_callV rfl rfl rfl rfl (by decide) h0 rfl ⟨Or.inl rfl, rfl, rfl, rfl, rfl, rfl, Nat.le_of_ble_eq_true rfl⟩ (hsys _) ?_
  refine zr_s0 rfl rfl rfl rfl ?_
  refine zr_s0 rfl rfl rfl rfl ?_
  refine zr_s0 rfl rfl rfl rfl ?_
  refine zr_s0 rfl rfl rfl rfl ?_
  exact zr_ret rfl rfl rfl
theorem x_keep {va vb : Int32}(h0 : zob M 0 = some (.inr (11, zf_0)))(hsys : ∀ v, call 284 [.ref 0, .int v] M = some (some .null, M))(hw : call 255 [.ref 0] M = some (some (.int 0), M))(htk : ∀ v w, call 285 [.ref 0, .int v, .int w] M = some (some .null, M)) {n : Nat} : zrun X zmt call zm_281 (n + 8) 0 [(0, .ref 0), (1, .int va), (2, .int vb)] [] M = some (some (.int (-2)), M) := by
  refine zr_s0 rfl rfl rfl rfl ?_
  refine zr_s0 rfl rfl rfl rfl ?_
  refine zr_callV rfl rfl rfl rfl (by decide) h0 rfl ⟨Or.inl rfl, rfl, rfl, rfl, rfl, rfl, Nat.le_of_ble_eq_true rfl⟩ (hsys _) ?_
  refine zr_s0 rfl rfl rfl rfl ?_
  refine zr_s0 rfl rfl rfl rfl ?_
  refine zr_s0 rfl rfl rfl rfl ?_
  refine zr_s0 rfl rfl rfl rfl ?_
  exact zr_ret rfl rfl rfl
theorem x_same {va vb : Int32}(h0 : zob M 0 = some (.inr (11, zf_0)))(hsys : ∀ v, call 284 [.ref 0, .int v] M = some (some .null, M)) {n : Nat} : zrun X zmt call zm_283 (n + 12) 0 [(0, .ref 0), (1, .int va), (2, .int vb)] [] M = some (some (.int 0), M) := by
  refine zr_s0 rfl rfl rfl rfl ?_
  refine zr_s0 rfl rfl rfl rfl ?_
  refine zr_callV rfl rfl rfl rfl (by decide) h0 rfl ⟨Or.inl rfl, rfl, rfl, rfl, rfl, rfl, Nat.le_of_ble_eq_true rfl⟩ (hsys _) ?_
  refine zr_s0 rfl rfl rfl rfl ?_
  refine zr_s0 rfl rfl rfl rfl ?_
  refine zr_s0 rfl rfl rfl rfl ?_
  refine zr_callV rfl rfl rfl rfl (by decide) h0 rfl ⟨Or.inl rfl, rfl, rfl, rfl, rfl, rfl, Nat.le_of_ble_eq_true rfl⟩ (hsys _) ?_
  refine zr_s0 rfl rfl rfl rfl ?_
  refine zr_s0 rfl rfl rfl rfl ?_
  refine zr_s0 rfl rfl rfl rfl ?_
  refine zr_s0 rfl rfl rfl rfl ?_
  exact zr_ret rfl rfl rfl
theorem x_holds {va : Int32}(h5 : zob M 5 = some (.inr (0, zf_5))) {n : Nat} : zrun X zmt call zm_1 (n + 8) 0 [(0, .ref 5), (1, .int va)] [] M = some (some (.int 0), M) := by
  refine zr_s0 rfl rfl rfl rfl ?_
  refine zr_if (t := 16) rfl rfl (fun h1 => ?_) (fun h1 => ?_)
  · refine zr_s0 rfl rfl rfl rfl ?_
    exact zr_ret rfl rfl rfl
  · refine zr_s0 rfl rfl rfl rfl ?_
    refine zr_s0 rfl rfl rfl rfl ?_
    refine zr_get rfl rfl h5 rfl ?_
    refine zr_icmp (t := 16) rfl rfl (fun h9 => ?_) (fun h => zc_ltge h1 h)
    refine zr_s0 rfl rfl rfl rfl ?_
    exact zr_ret rfl rfl rfl
theorem x_receive {va : Int32}(h5 : zob M 5 = some (.inr (0, zf_5))) {n : Nat} : zrun X zmt call zm_11 (n + 6) 0 [(0, .ref 5), (1, .int va)] [] M = some (some (.int (-3)), M) := by
  refine zr_s0 rfl rfl rfl rfl ?_
  refine zr_get rfl rfl h5 rfl ?_
  refine zr_s0 rfl rfl rfl rfl ?_
  refine zr_icmp (t := 11) rfl rfl (fun h => absurd h (by decide)) (fun _ => ?_)
  refine zr_s0 rfl rfl rfl rfl ?_
  exact zr_ret rfl rfl rfl
theorem x_run {va : Int32}(h5 : zob M 5 = some (.inr (0, zf_5))) {n : Nat} : zrun X zmt call zm_12 (n + 5) 0 [(0, .ref 5), (1, .int va)] [] M = some (some (.int (-3)), M) := by
  refine zr_s0 rfl rfl rfl rfl ?_
  refine zr_get rfl rfl h5 rfl ?_
  refine zr_if (t := 10) rfl rfl (fun h => absurd h (by decide)) (fun _ => ?_)
  refine zr_s0 rfl rfl rfl rfl ?_
  exact zr_ret rfl rfl rfl
end ZNEW
