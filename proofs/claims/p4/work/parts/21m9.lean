/-! THE REFERENCE'S PREDICATES, 4: all of them -/
def c1 (F : Int → Int) (E : Int) : Prop := F (E + 35) ≤ 0 ∨ 2 ≤ F (E + 1)
def c2 (F : Int → Int) (E : Int) : Prop := F (E + 8) ≤ 0 ∨ 1 ≤ F (E + 24)
def c8 (F : Int → Int) (E : Int) : Prop := F (E + 35) ≤ 0 ∨ 16 ≤ F (E + 33)
def c7 (F : Int → Int) (E : Int) : Prop := F (E + 35) ≤ 0 ∨ 172 ≤ F (E + 4)
def c3 (F : Int → Int) (E : Int) : Prop := F (E + 5) ≤ 0 ∨ F (E + 6) ≤ 7
def c4 (F : Int → Int) (E : Int) : Prop := F E ≤ 1 ∨ F (E + 9) ≤ 63
def c5 (F : Int → Int) (E : Int) : Prop := F (E + 8) ≤ 0 ∨ 2 ≤ F E ∨ 1 ≤ F (E + 7)
/-- bases: of regions, of tasks, of frames -/
def bs0 (q E : Int) : Prop := 0 ≤ q ∧ q ≤ 5 ∧ E = 39700 * q
def bs5 (q E : Int) : Prop := 0 ≤ q ∧ q ≤ 5 ∧ ∃ u, 0 ≤ u ∧ u ≤ 3 ∧ E = 30692 + 39700 * q + 660 * u
def bs3 (q E : Int) : Prop := 0 ≤ q ∧ q ≤ 5 ∧ ∃ u w, 0 ≤ u ∧ u ≤ 3 ∧ 0 ≤ w ∧ w ≤ 39 ∧ E = 30940 + 39700 * q + 660 * u + 10 * w
def qT (bs : Int → Int → Prop) (cl : (Int → Int) → Int → Prop) (ex : List Int) (F : Int → Int) : Prop := ∀ q E, bs q E → (∀ x ∈ ex, E ≠ x) → cl F E
def qB (bs : Int → Int → Prop) (cl : (Int → Int) → Int → Prop) (b : Int) (F : Int → Int) : Prop := ∀ q E, bs q E → 39700 * q ≠ b → cl F E
def q6 (ex : List Int) (F : Int → Int) : Prop := ∀ q, 0 ≤ q → q ≤ 4 → (∀ x ∈ ex, 39700 * q ≠ x) → F (39700 * q + 35) ≤ 0 ∨ (0 ≤ F (39700 * q + 12) ∧ F (39700 * q + 12) ≤ 3 ∧ F (39700 * q + 30692 + 660 * F (39700 * q + 12)) = 1)
/-- closed: by the header's own numbers -/
def dC (F : Int → Int) (b : Int) : Prop := dD F b (F (b + 4)) (F (b + 5)) (F (b + 24)) (F (b + 17)) (-1) (-1) ∧ (1 ≤ F (b + 24) → dH F b (fT F b 0) = 1)
def q10 (ex : List Int) (F : Int → Int) : Prop := ∀ q, 0 ≤ q → q ≤ 5 → (∀ x ∈ ex, 39700 * q ≠ x) → dC F (39700 * q)
def q12 (b many ic under pc x y h : Int) (F : Int → Int) : Prop := (∃ q, 0 ≤ q ∧ q ≤ 5 ∧ b = 39700 * q) ∧ dD F b many ic under pc x y ∧ (h = 1 → 1 ≤ under → dH F b (fT F b 0) = 1)
def q14 (b s k : Int) (F : Int → Int) : Prop := ∀ i, 0 ≤ i → i < k → ¬ (dK F b i = 6 ∧ dV F b i = s)
def q15 (b l u : Int) (F : Int → Int) : Prop := ∀ p, l ≤ p → p < u → pK F b p = 6
def q16 (b a : Int) (F : Int → Int) : Prop := a = -1 ∨ ∃ p, 0 ≤ p ∧ p < F (b + 17) ∧ p ≤ 31 ∧ pK F b p = 3 ∧ pP F b p = a
def q17 (b a k : Int) (F : Int → Int) : Prop := ∀ j, a ≤ j → j < k → iK F b j = 8 → iN F b j ≠ -2 - a
def q25 (b p : Int) (F : Int → Int) : Prop := pK F b p = 1 ∨ pK F b p = 5 ∨ pK F b p = 6
def q32 (a c h : Int) : Prop := 0 ≤ c → c ≤ 7 → a % (256 ^ c.toNat : Int) ≤ h
def q33 (r c v : Int) : Prop := 0 ≤ c → c ≤ 7 → r % (256 ^ c.toNat : Int) = v
def only (t : Int) : Prop := t = 101 ∨ t = 111 ∨ t = 113 ∨ (116 ≤ t ∧ t ≤ 118) ∨ t = 121 ∨ t = 127 ∨ (130 ≤ t ∧ t ≤ 146) ∨ (151 ≤ t ∧ t ≤ 154)
def q40 (t c u : Int) : Prop := only t → 1 ≤ c ∧ 1 ≤ u
def q41 (k n b : Int) (F : Int → Int) : Prop := (k = 14 → n < 0 ∨ 360 ≤ n ∨ F (b + 4) ≤ n ∨ dK F b n = 4 ∨ dK F b n = 5) ∧ (11 ≤ k → k ≤ 13 → 0 ≤ n)
def cnt2 (S : Int → Int) : Nat → Int
  | 0 => 0
  | n + 1 => cnt2 S n + if S n = 2 then 0 else 1
def q50 (c : Int) (S : Int → Int) : Prop := cnt2 S 4000 ≤ c
def q60 (s d k : Int) (F : Int → Int) : Prop := ∀ i, 0 ≤ i → i < k → F (d + i) = F (s + i)
def q61 (b k : Int) (F : Int → Int) : Prop := ∀ i, 0 ≤ i → i < k → F (b + i) = 0
def q62 (b : Int) (F : Int → Int) : Prop := ∀ i, (22692 ≤ i ∧ i < 30692) ∨ (30693 ≤ i ∧ i < 33332) ∨ (37420 ≤ i ∧ i < 39624) ∨ (∃ j, 0 ≤ j ∧ j < 360 ∧ i = 8292 + 40 * j) → F (b + i) = 0
/-- a word that is done, in a region that is closed -/
def dDone (F : Int → Int) (b i : Int) : Prop := (∃ q, 0 ≤ q ∧ q ≤ 5 ∧ b = 39700 * q) ∧ dC F b ∧ 0 ≤ i ∧ i < F (b + 4) ∧ dK F b i = 1 ∧ (1 ≤ F (b + 24) → i ≠ fT F b 0)
def q75 (b i : Int) (F : Int → Int) : Prop := dDone F b i ∧ dI F b i = 0 ∧ dJ F b i = 0
/-- chip words of an item -/
def chW (F : Int → Int) (b k : Int) : Int :=
  if iK F b k = 10 ∨ 14 ≤ iK F b k then 0 else if iK F b k = 1 then 2 else if iK F b k ≠ 0 then 1 else
  if dK F b (iN F b k) = 0 then (if iN F b k < 70 ∨ (74 < iN F b k ∧ iN F b k < 83) ∨ (147 ≤ iN F b k ∧ iN F b k ≤ 150) then 1 else 0) else
  if dK F b (iN F b k) = 1 then 1 else if dK F b (iN F b k) = 2 ∨ dK F b (iN F b k) = 7 then 2 else
  if dK F b (iN F b k) = 3 ∧ dE F b (iN F b k) = -1 then 2 else 0
def chS (F : Int → Int) (b V : Int) : Nat → Int
  | 0 => 0
  | n + 1 => chS F b V n + chW F b (V + n)
/-- places of the items of a part, from a on, k of them -/
def plcs (F PL : Int → Int) (b V a : Int) (n : Nat) : Prop := ∀ j : Nat, j < n → PL (V + j) = a + chS F b V j ∧ 1 ≤ chW F b (V + j)
def ptot (F P : Int → Int) (b : Int) : Nat → Int
  | 0 => 0
  | n + 1 => ptot F P b n + chS F b (dV F b (P n)) (dL F b (P n)).toNat
def q80 (n : Int) (P : Int → Int) : Prop := (∀ p q, 0 ≤ p → p < q → q < n → P p ≠ P q) ∧ ∀ p, 0 ≤ p → p < n → 0 ≤ P p ∧ P p ≤ 359
def q81 (t k : Int) (P : Int → Int) : Prop := ∀ p, 0 ≤ p → p < k → P p ≠ t
def q82 (b n e : Int) (F P A PL : Int → Int) : Prop := 0 ≤ n ∧ e = ptot F P b n.toNat ∧ ∀ p : Nat, (p : Int) < n → q75 b (P p) F ∧ A p = ptot F P b p ∧ plcs F PL b (dV F b (P p)) (A p) (dL F b (P p)).toNat
def q83 (b p i k e : Int) (F P A PL : Int → Int) : Prop := 0 ≤ p ∧ P p = i ∧ q75 b i F ∧ dV F b i ≤ k ∧ k ≤ dV F b i + dL F b i ∧ plcs F PL b (dV F b i) (A p) (k - dV F b i).toNat ∧ e = A p + chS F b (dV F b i) (k - dV F b i).toNat
def q84 (b n : Int) (F P : Int → Int) : Prop := ∀ p, 0 ≤ p → p < n → dDone F b (P p)
def call1 (F : Int → Int) (b k : Int) : Prop := iK F b k = 0 ∧ dK F b (iN F b k) = 1
def q87 (b i k n : Int) (F P : Int → Int) : Prop := ∀ l, dV F b i ≤ l → l < k → call1 F b l → ∃ p, 0 ≤ p ∧ p < n ∧ P p = iN F b l
def q86 (b n m : Int) (F P : Int → Int) : Prop := ∀ p, 0 ≤ p → p < n → q87 b (P p) (dV F b (P p) + dL F b (P p)) m F P
def q88 (b p i k a : Int) (F P A : Int → Int) : Prop := 0 ≤ p ∧ P p = i ∧ dV F b i ≤ k ∧ k ≤ dV F b i + dL F b i ∧ a = A p + chS F b (dV F b i) (k - dV F b i).toNat
def q91 (t n : Int) (P : Int → Int) : Prop := ∃ p, 0 ≤ p ∧ p < n ∧ P p = t
def or32 (a b : Int) : Int := (Int32.ofInt a ||| Int32.ofInt b).toInt
def shl24 (a : Int) : Int := (Int32.ofInt a <<< (24 : Int32)).toInt
/-- the words of item k are in the chip -/
def enc (F P A PL CH : Int → Int) (b k : Int) : Prop :=
  (iK F b k = 1 ∧ CH (PL k) = 16777216) ∨ (iK F b k = 0 ∧ 2 ≤ dK F b (iN F b k) ∧ CH (PL k) = 16777216) ∨
  (iK F b k = 0 ∧ dK F b (iN F b k) = 1 ∧ ∃ j n, 0 ≤ j ∧ j < n ∧ q80 n P ∧ P j = iN F b k ∧ CH (PL k) = or32 285212672 (A j)) ∨
  (ild (iK F b k) ∧ CH (PL k) = or32 (shl24 (iK F b k)) (PL (iN F b k))) ∨
  (2 ≤ iK F b k ∧ iK F b k ≤ 13 ∧ ¬ ild (iK F b k) ∧ 0 ≤ iN F b k ∧ iN F b k ≤ 16777215 ∧ CH (PL k) = or32 (shl24 (iK F b k)) (iN F b k)) ∨
  (iK F b k = 0 ∧ dK F b (iN F b k) = 0 ∧ 0 ≤ iN F b k ∧ iN F b k ≤ 16777215 ∧ CH (PL k) = or32 (shl24 0) (iN F b k))
def q89 (b i k : Int) (F P A PL CH : Int → Int) : Prop := ∀ l, dV F b i ≤ l → l < k → enc F P A PL CH b l
def q90 (b n : Int) (F P A PL CH : Int → Int) : Prop := ∀ p, 0 ≤ p → p < n → q89 b (P p) (dV F b (P p) + dL F b (P p)) F P A PL CH
/-! the chip goes -/
def wkd (w : Int) : Int := (Int32.ofInt w >>> (24 : Int32)).toInt
def wnm (w : Int) : Int := (Int32.ofInt w &&& 16777215).toInt
def hclo (CH : Int → Int) (S : Int → Prop) : Prop := S 0 ∧ ∀ a, S a → (wkd (CH a) = 0 → wnm (CH a) ≠ 150 → S (a + 1)) ∧ (wkd (CH a) = 1 → S (a + 2)) ∧ (2 ≤ wkd (CH a) → S (a + 1)) ∧ (ild (wkd (CH a)) ∨ wkd (CH a) = 17 → S (wnm (CH a)))
def good (CH : Int → Int) (n a : Int) : Prop := 0 ≤ a ∧ a < n ∧ 0 ≤ wkd (CH a) ∧ (wkd (CH a) ≤ 9 ∨ (11 ≤ wkd (CH a) ∧ wkd (CH a) ≤ 13) ∨ wkd (CH a) = 17) ∧ (wkd (CH a) = 0 → wnm (CH a) ≤ 82 ∨ (147 ≤ wnm (CH a) ∧ wnm (CH a) ≤ 150)) ∧ (wkd (CH a) = 1 → a + 1 < n)
def q20 (n : Int) (CH : Int → Int) : Prop := ∃ S, hclo CH S ∧ ∀ a, S a → good CH n a
def q21 (e : Int) (CH : Int → Int) : Prop := ∀ S, hclo CH S → S e
def q22 (f : Int) (CH F : Int → Int) : Prop := ∀ j, 0 ≤ j → j < f → q21 (F (229441 + 10 * j)) CH
def q23 (cs a : Int) (CH F : Int → Int) : Prop := cs ≤ 2000 ∧ (cs ≤ 0 ∨ (q20 cs CH ∧ q21 a CH ∧ q22 (F 229198) CH F ∧ F 229198 ≤ 40))
/-! lean -/
/-- F is F0 but for items and the length of one word -/
def frm (F0 F : Int → Int) (b i : Int) : Prop :=
  (∀ o, o = 4 ∨ o = 5 ∨ o = 17 ∨ o = 24 → F (b + o) = F0 (b + o)) ∧
  (∀ j, 0 ≤ j → j < 360 → dK F b j = dK F0 b j ∧ dV F b j = dV F0 b j ∧ (j ≠ i → dL F b j = dL F0 b j) ∧ dH F b j = dH F0 b j ∧ dI F b j = dI F0 b j ∧ dJ F b j = dJ F0 b j) ∧
  (∀ j, 0 ≤ j → j < 32 → pK F b j = pK F0 b j ∧ pP F b j = pP F0 b j ∧ mM F b j = mM F0 b j ∧ mI F b j = mI F0 b j) ∧
  (∀ j, 0 ≤ j → j < 5 → fT F b j = fT F0 b j ∧ fS F b j = fS F0 b j ∧ fP F b j = fP F0 b j ∧ fJ F b j = fJ F0 b j)
def lst (F0 : Int → Int) (b w a n e i : Int) : Prop := (∃ q, 0 ≤ q ∧ q ≤ 5 ∧ b = 39700 * q) ∧ w = b + 8292 + 40 * i ∧ dC F0 b ∧ 0 ≤ i ∧ i < F0 (b + 4) ∧ F0 (b + 24) = 0 ∧ dK F0 b i = 1 ∧ dI F0 b i = 0 ∧ dJ F0 b i = 0 ∧ dV F0 b i + dL F0 b i = e ∧ dV F0 b i ≤ a ∧ a + n < e ∧ 1 ≤ n
def q71 (b w a n e k p : Int) (F : Int → Int) : Prop := ∃ F0 i, lst F0 b w a n e i ∧ a + n ≤ k ∧ k ≤ e ∧ frm F0 F b i ∧
  (∀ j, 0 ≤ j → j < 4000 → (p = 1 → j ≠ k - n) → j < a ∨ k - n ≤ j → iK F b j = iK F0 b j ∧ iN F b j = iN F0 b j) ∧
  (∀ j, a ≤ j → j < k - n → iK F b j = iK F0 b (j + n) ∧ iN F b j = iN F0 b (j + n))
def adjn (a n x : Int) : Int := if a < x then (if a + n ≤ x then x - n else a) else x
def srcn (a n j : Int) : Int := if j < a then j else j + n
def q72 (b w a n e k p old : Int) (F : Int → Int) : Prop := ∃ F0 i, lst F0 b w a n e i ∧ dV F0 b i ≤ k ∧ k ≤ e - n ∧ frm F0 F b i ∧
  (∀ j, 0 ≤ j → j < 4000 → j < dV F0 b i ∨ e - n ≤ j → iK F b j = iK F0 b j ∧ iN F b j = iN F0 b j) ∧
  (∀ j, dV F0 b i ≤ j → j < e - n → iK F b j = iK F0 b (srcn a n j) ∧ ((p = 1 → j ≠ k) → (j < k → ild (iK F0 b (srcn a n j)) → iN F b j = adjn a n (iN F0 b (srcn a n j))) ∧ (k ≤ j ∨ ¬ ild (iK F0 b (srcn a n j)) → iN F b j = iN F0 b (srcn a n j)))) ∧
  (p = 1 → old = iN F0 b (srcn a n k))
/-! numbers, and what they say -/
abbrev rF : Type := List Int → (Nat → Int → Int) → (Nat → Int) → Prop
def rlk : List (Nat × rF) → Nat → rF
  | [], _ => fun _ _ _ => False
  | p :: l, n => cond (Nat.beq p.1 n) p.2 (rlk l n)
def r1 (f : Int → (Nat → Int → Int) → Prop) : rF := fun ps R _ => match ps with
  | [a] => f a R
  | _ => False
def r2 (f : Int → Int → (Nat → Int → Int) → Prop) : rF := fun ps R _ => match ps with
  | [a, b] => f a b R
  | _ => False
def r3 (f : Int → Int → Int → (Nat → Int → Int) → Prop) : rF := fun ps R _ => match ps with
  | [a, b, c] => f a b c R
  | _ => False
def r4 (f : Int → Int → Int → Int → (Nat → Int → Int) → Prop) : rF := fun ps R _ => match ps with
  | [a, b, c, d] => f a b c d R
  | _ => False
def r5 (f : Int → Int → Int → Int → Int → (Nat → Int → Int) → Prop) : rF := fun ps R _ => match ps with
  | [a, b, c, d, e] => f a b c d e R
  | _ => False
def r7 (f : Int → Int → Int → Int → Int → Int → Int → (Nat → Int → Int) → Prop) : rF := fun ps R _ => match ps with
  | [a, b, c, d, e, g, h] => f a b c d e g h R
  | _ => False
def r8 (f : Int → Int → Int → Int → Int → Int → Int → Int → (Nat → Int → Int) → Prop) : rF := fun ps R _ => match ps with
  | [a, b, c, d, e, g, h, i] => f a b c d e g h i R
  | _ => False
def rQL : List (Nat × rF) := [
  (12, r8 fun b m i u p x y h R => q12 b m i u p x y h (R 58)), (10, fun ps R _ => q10 ps (R 58)),
  (2, fun ps R _ => qT bs0 c2 ps (R 58)), (3, fun ps R _ => qT bs3 c3 ps (R 58)), (4, fun ps R _ => qT bs3 c4 ps (R 58)), (5, fun ps R _ => qT bs5 c5 ps (R 58)), (6, fun ps R _ => q6 ps (R 58)),
  (7, fun ps R _ => qT bs0 c7 ps (R 58)), (8, fun ps R _ => qT bs0 c8 ps (R 58)), (1, fun ps R _ => qT bs0 c1 ps (R 58)),
  (18, r4 fun b i p n R => dRs (R 58) b i p n), (19, r5 fun b i u p x R => dNx (R 58) b i u p x), (25, r2 fun b p R => q25 b p (R 58)), (93, r1 fun k _ => ild k), (94, r1 fun k _ => ¬ ild k),
  (14, r3 fun b s k R => q14 b s k (R 58)), (15, r3 fun b l u R => q15 b l u (R 58)), (16, r2 fun b a R => q16 b a (R 58)), (17, r3 fun b a k R => q17 b a k (R 58)),
  (40, r3 fun t c u _ => q40 t c u), (41, r3 fun k n b R => q41 k n b (R 58)), (32, r3 fun a c h _ => q32 a c h), (33, r3 fun a c h _ => q33 a c h), (50, r1 fun c R => q50 c (R 64)),
  (60, r3 fun s d k R => q60 s d k (R 58)), (61, r2 fun b k R => q61 b k (R 58)), (62, r1 fun b R => q62 b (R 58)),
  (103, r1 fun b R => qB bs3 c3 b (R 58)), (104, r1 fun b R => qB bs3 c4 b (R 58)), (105, r1 fun b R => qB bs5 c5 b (R 58)),
  (71, r7 fun b w a n e k p R => q71 b w a n e k p (R 58)), (72, r8 fun b w a n e k p o R => q72 b w a n e k p o (R 58)),
  (75, r2 fun b i R => q75 b i (R 58)), (80, r1 fun n R => q80 n (R 67)), (81, r2 fun t k R => q81 t k (R 67)), (82, r3 fun b n e R => q82 b n e (R 58) (R 67) (R 68) (R 60)),
  (83, r5 fun b p i k e R => q83 b p i k e (R 58) (R 67) (R 68) (R 60)), (84, r2 fun b n R => q84 b n (R 58) (R 67)), (85, r2 fun b t R => dDone (R 58) b t), (86, r3 fun b n m R => q86 b n m (R 58) (R 67)),
  (87, r4 fun b i k n R => q87 b i k n (R 58) (R 67)), (88, r5 fun b p i k a R => q88 b p i k a (R 58) (R 67) (R 68)), (89, r4 fun b _ i k R => q89 b i k (R 58) (R 67) (R 68) (R 60) (R 66)),
  (90, r2 fun b n R => q90 b n (R 58) (R 67) (R 68) (R 60) (R 66)), (91, r2 fun t n R => q91 t n (R 67)),
  (20, r1 fun n R => q20 n (R 66)), (21, r1 fun e R => q21 e (R 66)), (22, r1 fun f R => q22 f (R 66) (R 58)), (23, fun ps R G => match ps with
    | [] => q23 (G 27) (G 28) (R 66) (R 58)
    | _ => False), (24, fun ps R G => match ps with
    | [] => G 27 ≤ 0 ∨ 2 ≤ R 58 198501
    | _ => False), (92, r1 fun k _ => k ≠ 10),
  (131, r1 fun e R => c1 (R 58) e), (132, r1 fun e R => c2 (R 58) e), (133, r1 fun e R => c3 (R 58) e), (134, r1 fun e R => c4 (R 58) e), (135, r1 fun e R => c5 (R 58) e), (137, r1 fun e R => c7 (R 58) e), (138, r1 fun e R => c8 (R 58) e)]
def rQ : hQ := rlk rQL
/-! of a rule's own numbers to names -/
theorem hF {R : Int → Int} {a a' v : Int} (h : R a = v) (e : a' = a) : R a' = v := by
  rw [e]
  exact h
theorem hl1 {l : List Int} (h : l.length = 1) : ∃ a, l = [a] := by
  match l, h with
  | [a], _ => exact ⟨a, rfl⟩
theorem hl2 {l : List Int} (h : l.length = 2) : ∃ a b, l = [a, b] := by
  match l, h with
  | [a, b], _ => exact ⟨a, b, rfl⟩
theorem hl3 {l : List Int} (h : l.length = 3) : ∃ a b c, l = [a, b, c] := by
  match l, h with
  | [a, b, c], _ => exact ⟨a, b, c, rfl⟩
theorem hl4 {l : List Int} (h : l.length = 4) : ∃ a b c d, l = [a, b, c, d] := by
  match l, h with
  | [a, b, c, d], _ => exact ⟨a, b, c, d, rfl⟩
theorem hl5 {l : List Int} (h : l.length = 5) : ∃ a b c d e, l = [a, b, c, d, e] := by
  match l, h with
  | [a, b, c, d, e], _ => exact ⟨a, b, c, d, e, rfl⟩
theorem hl7 {l : List Int} (h : l.length = 7) : ∃ a b c d e f g, l = [a, b, c, d, e, f, g] := by
  match l, h with
  | [a, b, c, d, e, f, g], _ => exact ⟨a, b, c, d, e, f, g, rfl⟩
theorem hl8 {l : List Int} (h : l.length = 8) : ∃ a b c d e f g i, l = [a, b, c, d, e, f, g, i] := by
  match l, h with
  | [a, b, c, d, e, f, g, i], _ => exact ⟨a, b, c, d, e, f, g, i, rfl⟩
theorem hl0 {l : List Int} (h : l.length = 0) : l = [] := List.length_eq_zero_iff.mp h
theorem hmt_len {C : List Int → Prop} : ∀ (ps : List sE) (as e : List Int), ps.length ≠ as.length → hmt C ps as e
  | [], [], _, h => absurd rfl h
  | p :: ps, a :: as, e, h => by
    have h2 : ps.length ≠ as.length := fun w => h (by rw [List.length_cons, List.length_cons, w])
    unfold hmt
    split
    · exact hmt_len ps as _ h2
    · exact fun _ => hmt_len ps as _ h2
  | [], _ :: _, _, _ => trivial
  | _ :: _, [], _, _ => trivial
theorem hm0 {C : List Int → Prop} {q : List Int → Prop} {e : List Int} (h : q [] → hmt C [] [] e) : ∀ as, q as → hmt C [] as e := by
  intro as hq
  match as, hq with
  | [], hq => exact h hq
  | _ :: _, _ => exact hmt_len _ _ _ (by simp only [List.length_cons, List.length_nil]; omega)
theorem hm1 {C : List Int → Prop} {q : List Int → Prop} {e : List Int} {p0 : sE} (h : ∀ a0, q [a0] → hmt C [p0] [a0] e) : ∀ as, q as → hmt C [p0] as e := by
  intro as hq
  match as, hq with
  | [], _ => exact hmt_len _ _ _ (by simp only [List.length_cons, List.length_nil]; omega)
  | [a0], hq => exact h a0 hq
  | _ :: _ :: _, _ => exact hmt_len _ _ _ (by simp only [List.length_cons, List.length_nil]; omega)
theorem hm2 {C : List Int → Prop} {q : List Int → Prop} {e : List Int} {p0 p1 : sE} (h : ∀ a0 a1, q [a0, a1] → hmt C [p0, p1] [a0, a1] e) : ∀ as, q as → hmt C [p0, p1] as e := by
  intro as hq
  match as, hq with
  | [], _ => exact hmt_len _ _ _ (by simp only [List.length_cons, List.length_nil]; omega)
  | [_], _ => exact hmt_len _ _ _ (by simp only [List.length_cons, List.length_nil]; omega)
  | [a0, a1], hq => exact h a0 a1 hq
  | _ :: _ :: _ :: _, _ => exact hmt_len _ _ _ (by simp only [List.length_cons, List.length_nil]; omega)
theorem hm3 {C : List Int → Prop} {q : List Int → Prop} {e : List Int} {p0 p1 p2 : sE} (h : ∀ a0 a1 a2, q [a0, a1, a2] → hmt C [p0, p1, p2] [a0, a1, a2] e) : ∀ as, q as → hmt C [p0, p1, p2] as e := by
  intro as hq
  match as, hq with
  | [], _ => exact hmt_len _ _ _ (by simp only [List.length_cons, List.length_nil]; omega)
  | [_], _ => exact hmt_len _ _ _ (by simp only [List.length_cons, List.length_nil]; omega)
  | [_, _], _ => exact hmt_len _ _ _ (by simp only [List.length_cons, List.length_nil]; omega)
  | [a0, a1, a2], hq => exact h a0 a1 a2 hq
  | _ :: _ :: _ :: _ :: _, _ => exact hmt_len _ _ _ (by simp only [List.length_cons, List.length_nil]; omega)
theorem hm4 {C : List Int → Prop} {q : List Int → Prop} {e : List Int} {p0 p1 p2 p3 : sE} (h : ∀ a0 a1 a2 a3, q [a0, a1, a2, a3] → hmt C [p0, p1, p2, p3] [a0, a1, a2, a3] e) : ∀ as, q as → hmt C [p0, p1, p2, p3] as e := by
  intro as hq
  match as, hq with
  | [], _ => exact hmt_len _ _ _ (by simp only [List.length_cons, List.length_nil]; omega)
  | [_], _ => exact hmt_len _ _ _ (by simp only [List.length_cons, List.length_nil]; omega)
  | [_, _], _ => exact hmt_len _ _ _ (by simp only [List.length_cons, List.length_nil]; omega)
  | [_, _, _], _ => exact hmt_len _ _ _ (by simp only [List.length_cons, List.length_nil]; omega)
  | [a0, a1, a2, a3], hq => exact h a0 a1 a2 a3 hq
  | _ :: _ :: _ :: _ :: _ :: _, _ => exact hmt_len _ _ _ (by simp only [List.length_cons, List.length_nil]; omega)
theorem hm5 {C : List Int → Prop} {q : List Int → Prop} {e : List Int} {p0 p1 p2 p3 p4 : sE} (h : ∀ a0 a1 a2 a3 a4, q [a0, a1, a2, a3, a4] → hmt C [p0, p1, p2, p3, p4] [a0, a1, a2, a3, a4] e) : ∀ as, q as → hmt C [p0, p1, p2, p3, p4] as e := by
  intro as hq
  match as, hq with
  | [], _ => exact hmt_len _ _ _ (by simp only [List.length_cons, List.length_nil]; omega)
  | [_], _ => exact hmt_len _ _ _ (by simp only [List.length_cons, List.length_nil]; omega)
  | [_, _], _ => exact hmt_len _ _ _ (by simp only [List.length_cons, List.length_nil]; omega)
  | [_, _, _], _ => exact hmt_len _ _ _ (by simp only [List.length_cons, List.length_nil]; omega)
  | [_, _, _, _], _ => exact hmt_len _ _ _ (by simp only [List.length_cons, List.length_nil]; omega)
  | [a0, a1, a2, a3, a4], hq => exact h a0 a1 a2 a3 a4 hq
  | _ :: _ :: _ :: _ :: _ :: _ :: _, _ => exact hmt_len _ _ _ (by simp only [List.length_cons, List.length_nil]; omega)
theorem hm6 {C : List Int → Prop} {q : List Int → Prop} {e : List Int} {p0 p1 p2 p3 p4 p5 : sE} (h : ∀ a0 a1 a2 a3 a4 a5, q [a0, a1, a2, a3, a4, a5] → hmt C [p0, p1, p2, p3, p4, p5] [a0, a1, a2, a3, a4, a5] e) : ∀ as, q as → hmt C [p0, p1, p2, p3, p4, p5] as e := by
  intro as hq
  match as, hq with
  | [], _ => exact hmt_len _ _ _ (by simp only [List.length_cons, List.length_nil]; omega)
  | [_], _ => exact hmt_len _ _ _ (by simp only [List.length_cons, List.length_nil]; omega)
  | [_, _], _ => exact hmt_len _ _ _ (by simp only [List.length_cons, List.length_nil]; omega)
  | [_, _, _], _ => exact hmt_len _ _ _ (by simp only [List.length_cons, List.length_nil]; omega)
  | [_, _, _, _], _ => exact hmt_len _ _ _ (by simp only [List.length_cons, List.length_nil]; omega)
  | [_, _, _, _, _], _ => exact hmt_len _ _ _ (by simp only [List.length_cons, List.length_nil]; omega)
  | [a0, a1, a2, a3, a4, a5], hq => exact h a0 a1 a2 a3 a4 a5 hq
  | _ :: _ :: _ :: _ :: _ :: _ :: _ :: _, _ => exact hmt_len _ _ _ (by simp only [List.length_cons, List.length_nil]; omega)
theorem hm7 {C : List Int → Prop} {q : List Int → Prop} {e : List Int} {p0 p1 p2 p3 p4 p5 p6 : sE} (h : ∀ a0 a1 a2 a3 a4 a5 a6, q [a0, a1, a2, a3, a4, a5, a6] → hmt C [p0, p1, p2, p3, p4, p5, p6] [a0, a1, a2, a3, a4, a5, a6] e) : ∀ as, q as → hmt C [p0, p1, p2, p3, p4, p5, p6] as e := by
  intro as hq
  match as, hq with
  | [], _ => exact hmt_len _ _ _ (by simp only [List.length_cons, List.length_nil]; omega)
  | [_], _ => exact hmt_len _ _ _ (by simp only [List.length_cons, List.length_nil]; omega)
  | [_, _], _ => exact hmt_len _ _ _ (by simp only [List.length_cons, List.length_nil]; omega)
  | [_, _, _], _ => exact hmt_len _ _ _ (by simp only [List.length_cons, List.length_nil]; omega)
  | [_, _, _, _], _ => exact hmt_len _ _ _ (by simp only [List.length_cons, List.length_nil]; omega)
  | [_, _, _, _, _], _ => exact hmt_len _ _ _ (by simp only [List.length_cons, List.length_nil]; omega)
  | [_, _, _, _, _, _], _ => exact hmt_len _ _ _ (by simp only [List.length_cons, List.length_nil]; omega)
  | [a0, a1, a2, a3, a4, a5, a6], hq => exact h a0 a1 a2 a3 a4 a5 a6 hq
  | _ :: _ :: _ :: _ :: _ :: _ :: _ :: _ :: _, _ => exact hmt_len _ _ _ (by simp only [List.length_cons, List.length_nil]; omega)
theorem hm8 {C : List Int → Prop} {q : List Int → Prop} {e : List Int} {p0 p1 p2 p3 p4 p5 p6 p7 : sE} (h : ∀ a0 a1 a2 a3 a4 a5 a6 a7, q [a0, a1, a2, a3, a4, a5, a6, a7] → hmt C [p0, p1, p2, p3, p4, p5, p6, p7] [a0, a1, a2, a3, a4, a5, a6, a7] e) : ∀ as, q as → hmt C [p0, p1, p2, p3, p4, p5, p6, p7] as e := by
  intro as hq
  match as, hq with
  | [], _ => exact hmt_len _ _ _ (by simp only [List.length_cons, List.length_nil]; omega)
  | [_], _ => exact hmt_len _ _ _ (by simp only [List.length_cons, List.length_nil]; omega)
  | [_, _], _ => exact hmt_len _ _ _ (by simp only [List.length_cons, List.length_nil]; omega)
  | [_, _, _], _ => exact hmt_len _ _ _ (by simp only [List.length_cons, List.length_nil]; omega)
  | [_, _, _, _], _ => exact hmt_len _ _ _ (by simp only [List.length_cons, List.length_nil]; omega)
  | [_, _, _, _, _], _ => exact hmt_len _ _ _ (by simp only [List.length_cons, List.length_nil]; omega)
  | [_, _, _, _, _, _], _ => exact hmt_len _ _ _ (by simp only [List.length_cons, List.length_nil]; omega)
  | [_, _, _, _, _, _, _], _ => exact hmt_len _ _ _ (by simp only [List.length_cons, List.length_nil]; omega)
  | [a0, a1, a2, a3, a4, a5, a6, a7], hq => exact h a0 a1 a2 a3 a4 a5 a6 a7 hq
  | _ :: _ :: _ :: _ :: _ :: _ :: _ :: _ :: _ :: _, _ => exact hmt_len _ _ _ (by simp only [List.length_cons, List.length_nil]; omega)
