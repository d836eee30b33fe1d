/-! THE ENGINE, 4: states go on; locals and stack -/
theorem swf_ins {n x : Nat} {c : Int} (hx : x < n) : ∀ {l : sT}, swf n l → swf n (sins x c l) := by
  intro l
  induction l with
  | nil => intro _ t ht; rw [List.mem_singleton.mp ht]; exact hx
  | cons t l ih =>
    intro h
    have h1 : t.1 < n := h t List.mem_cons_self
    have h2 : swf n l := fun q hq => h q (List.mem_cons_of_mem _ hq)
    unfold sins
    cases Nat.beq x t.1 with
    | true =>
      cases siz (c + t.2) with
      | true => exact h2
      | false => exact List.forall_mem_cons.mpr ⟨hx, h2⟩
    | false =>
      cases Nat.blt x t.1 with
      | true => exact List.forall_mem_cons.mpr ⟨hx, List.forall_mem_cons.mpr ⟨h1, h2⟩⟩
      | false => exact List.forall_mem_cons.mpr ⟨h1, ih h2⟩
theorem swf_adds {n : Nat} {k : Int} {b : sT} (hb : swf n b) : ∀ {a : sT}, swf n a → swf n (sadds k a b) := by
  intro a
  induction a with
  | nil => intro _; exact hb
  | cons t a ih =>
    intro h
    exact swf_ins (h t List.mem_cons_self) (ih fun q hq => h q (List.mem_cons_of_mem _ hq))
theorem swE_add {n : Nat} {a b : sE} (ha : swE n a) (hb : swE n b) : swE n (sadd a b) := swf_adds hb ha
theorem swE_sub {n : Nat} {a b : sE} (ha : swE n a) (hb : swE n b) : swE n (ssub a b) := swf_adds ha hb
theorem swE_C {n : Nat} (c : Int) : swE n (sC c) := fun t h => by cases h
theorem swE_S {n x : Nat} (h : x < n) : swE n (sS x) := fun t ht => by rw [List.mem_singleton.mp ht]; exact h
theorem swE_mul {n : Nat} {k : Int} {e : sE} (h : swE n e) : swE n (smul k e) := by
  unfold smul
  cases siz k with
  | true => intro t ht; cases ht
  | false =>
    intro t ht
    obtain ⟨q, hq, rfl⟩ := List.mem_map.mp ht
    exact h q hq
theorem swE.le {n m : Nat} {e : sE} (h : swE n e) (hm : n ≤ m) : swE m e := fun t ht => Nat.lt_of_lt_of_le (h t ht) hm
theorem se_agr {ρ σ : Nat → Int} {n : Nat} (h : sagr n ρ σ) {e : sE} (w : swE n e) : se σ e = se ρ e := by
  unfold se
  rw [sv_agr h e.2 w]
theorem sVal_agr {ρ σ : Nat → Int} {n : Nat} (h : sagr n ρ σ) {v : Value} {a : sV} (w : swV n a) (hv : sVal ρ v a) : sVal σ v a := by
  unfold sVal at *
  rw [se_agr h w]
  exact hv
theorem sFac_agr {ρ σ : Nat → Int} {n : Nat} (h : sagr n ρ σ) {M : zM} {f : sF} (w : swF n f) (hf : sFac ρ M f) : sFac σ M f := by
  unfold sFac at *
  rw [se_agr h w.1, se_agr h w.2.1, se_agr h w.2.2]
  exact hf
theorem sDok_agr {ρ σ : Nat → Int} {n : Nat} (h : sagr n ρ σ) {d : sD} (w : swD n d) (hd : sDok ρ d) : sDok σ d := by
  unfold sDok at *
  rw [se_agr h w.1, se_agr h w.2.1, h _ w.2.2]
  exact hd
theorem sStk_agr {ρ σ : Nat → Int} {n : Nat} (h : sagr n ρ σ) : ∀ {st : List Value} {T : List sV}, (∀ a ∈ T, swV n a) → sStk ρ st T → sStk σ st T
  | [], [], _, _ => trivial
  | [], _ :: _, _, q => q
  | _ :: _, [], _, q => q
  | v :: st, a :: T, w, q => ⟨sVal_agr h (w a List.mem_cons_self) q.1, sStk_agr h (fun b hb => w b (List.mem_cons_of_mem _ hb)) q.2⟩
theorem sgl_mem {L : List (Nat × sV)} {i : Nat} {a : sV} (h : sgl L i = some a) : ∃ p ∈ L, p.2 = a ∧ p.1 = i := by
  induction L with
  | nil => cases h
  | cons p l ih =>
    unfold sgl at h
    cases hq : Nat.beq p.1 i with
    | true =>
      rw [hq] at h
      cases h
      exact ⟨p, List.mem_cons_self, rfl, Nat.eq_of_beq_eq_true hq⟩
    | false =>
      rw [hq] at h
      obtain ⟨q, h1, h2⟩ := ih h
      exact ⟨q, List.mem_cons_of_mem _ h1, h2⟩
theorem supd_agr {ρ : Nat → Int} {n : Nat} {v : Int} : sagr n ρ (supd ρ n v) := fun x hx => if_neg (Nat.ne_of_lt hx)
theorem supd_self {ρ : Nat → Int} {n : Nat} {v : Int} : supd ρ n v n = v := if_pos rfl
theorem sok_fresh {ρ : Nat → Int} {B : sB} {lo hi v : Int} (h : sok ρ B) (hv : lo ≤ v ∧ v ≤ hi) : sok (supd ρ B.length v) (B ++ [(lo, hi)]) := by
  intro x
  unfold sbd
  rw [List.getD_eq_getElem?_getD]
  rcases Nat.lt_trichotomy x B.length with q | q | q
  · rw [List.getElem?_append_left q]
    have := h x
    unfold sbd at this
    rw [List.getD_eq_getElem?_getD] at this
    unfold supd
    rw [if_neg (Nat.ne_of_lt q)]
    exact this
  · rw [q, List.getElem?_append_right (Nat.le_refl _), Nat.sub_self, supd_self]
    exact hv
  · rw [List.getElem?_eq_none (by rw [List.length_append]; exact q)]
    have := h x
    unfold sbd at this
    rw [List.getD_eq_getElem?_getD, List.getElem?_eq_none (Nat.le_of_lt q)] at this
    unfold supd
    rw [if_neg (Nat.ne_of_gt q)]
    exact this
section SR
variable {Qs : Nat → List Int → zM → Prop} {ρ : Nat → Int} {K : sK} {D : List sD} {F : List sF} {Q : List sQ} {L : List (Nat × sV)} {T : List sV} {ls : zL} {st : List Value} {M : zM}
/-- a symbol more, of a value between bounds -/
theorem sR_fresh (h : sR Qs ρ (K, D, F, Q, L, T) ls st M) {lo hi v : Int} (hv : lo ≤ v ∧ v ≤ hi) : sR Qs (supd ρ K.1.length v) (sfresh K lo hi, D, F, Q, L, T) ls st M := by
  obtain ⟨h1, h2, h3, h4, h5, h6, h7, w1, w2, w3, w4, w5, w6⟩ := h
  have ha : sagr K.1.length ρ (supd ρ K.1.length v) := supd_agr
  have hl : (sfresh K lo hi).1.length = K.1.length + 1 := List.length_append
  have hle : K.1.length ≤ (sfresh K lo hi).1.length := by rw [hl]; exact Nat.le_succ _
  refine ⟨⟨sok_fresh h1.1 hv, fun p hp => ?_⟩, fun d hd => sDok_agr ha (w2 d hd) (h2 d hd), fun f hf => sFac_agr ha (w3 f hf) (h3 f hf), fun q hq => ?_, fun p hp => ?_, sStk_agr ha w6 h6, h7, fun p hp => (w1 p hp).le hle, fun d hd => ⟨(w2 d hd).1.le hle, (w2 d hd).2.1.le hle, Nat.lt_of_lt_of_le (w2 d hd).2.2 hle⟩, fun f hf => ⟨(w3 f hf).1.le hle, (w3 f hf).2.1.le hle, swE.le (w3 f hf).2.2 hle⟩, fun q hq e he => (w4 q hq e he).le hle, fun p hp => swE.le (w5 p hp) hle, fun a ha => swE.le (w6 a ha) hle⟩
  · rw [se_agr ha (w1 p hp)]
    exact h1.2 p hp
  · have e : q.2.map (se (supd ρ K.1.length v)) = q.2.map (se ρ) := List.map_congr_left fun e he => se_agr ha (w4 q hq e he)
    rw [e]
    exact h4 q hq
  · obtain ⟨u, u1, u2⟩ := h5 p hp
    exact ⟨u, u1, sVal_agr ha (w5 p hp) u2⟩
theorem sR_push (h : sR Qs ρ (K, D, F, Q, L, T) ls st M) {v : Value} {a : sV} (hv : sVal ρ v a) (w : swV K.1.length a) : sR Qs ρ (K, D, F, Q, L, a :: T) ls (v :: st) M := by
  obtain ⟨h1, h2, h3, h4, h5, h6, h7, w1, w2, w3, w4, w5, w6⟩ := h
  exact ⟨h1, h2, h3, h4, h5, ⟨hv, h6⟩, h7, w1, w2, w3, w4, w5, List.forall_mem_cons.mpr ⟨w, w6⟩⟩
theorem sR_pop {a : sV} (h : sR Qs ρ (K, D, F, Q, L, a :: T) ls st M) : ∃ v r, st = v :: r ∧ sVal ρ v a ∧ swV K.1.length a ∧ sR Qs ρ (K, D, F, Q, L, T) ls r M := by
  obtain ⟨h1, h2, h3, h4, h5, h6, h7, w1, w2, w3, w4, w5, w6⟩ := h
  cases st with
  | nil => exact h6.elim
  | cons v r => exact ⟨v, r, rfl, h6.1, w6 a List.mem_cons_self, h1, h2, h3, h4, h5, h6.2, h7, w1, w2, w3, w4, w5, fun b hb => w6 b (List.mem_cons_of_mem _ hb)⟩
/-- other bounds and assumptions, as good, of as many symbols -/
theorem sR_K (h : sR Qs ρ (K, D, F, Q, L, T) ls st M) {K' : sK} (hk : skok ρ K') (hl : K'.1.length = K.1.length) (hw : ∀ p ∈ K'.2, swE K.1.length p) : sR Qs ρ (K', D, F, Q, L, T) ls st M := by
  obtain ⟨h1, h2, h3, h4, h5, h6, h7, w1, w2, w3, w4, w5, w6⟩ := h
  have e : ∀ {n : Nat} {q : Nat → Prop}, n = K.1.length → q K.1.length → q n := fun e h => e ▸ h
  refine ⟨hk, h2, h3, h4, h5, h6, h7, ?_, ?_, ?_, ?_, ?_, ?_⟩ <;> dsimp only <;> rw [hl] <;> assumption
end SR
