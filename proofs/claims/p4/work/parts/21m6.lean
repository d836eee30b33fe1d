/-! THE REFERENCE'S PREDICATES, 1: definitions of a region -/
def dK (F : Int → Int) (b i : Int) : Int := F (b + 8292 + 40 * i)
def dV (F : Int → Int) (b i : Int) : Int := F (b + 8295 + 40 * i)
def dL (F : Int → Int) (b i : Int) : Int := F (b + 8296 + 40 * i)
def dE (F : Int → Int) (b i : Int) : Int := F (b + 8297 + 40 * i)
def dH (F : Int → Int) (b i : Int) : Int := F (b + 8299 + 40 * i)
def dI (F : Int → Int) (b i : Int) : Int := F (b + 8305 + 40 * i)
def dJ (F : Int → Int) (b i : Int) : Int := F (b + 8306 + 40 * i)
def iK (F : Int → Int) (b k : Int) : Int := F (b + 22692 + 2 * k)
def iN (F : Int → Int) (b k : Int) : Int := F (b + 22693 + 2 * k)
def pK (F : Int → Int) (b p : Int) : Int := F (b + 37420 + 6 * p)
def pP (F : Int → Int) (b p : Int) : Int := F (b + 37421 + 6 * p)
def fT (F : Int → Int) (b j : Int) : Int := F (b + 37612 + 300 * j)
def fS (F : Int → Int) (b j : Int) : Int := F (b + 37613 + 300 * j)
def fP (F : Int → Int) (b j : Int) : Int := F (b + 37617 + 300 * j)
def fJ (F : Int → Int) (b j : Int) : Int := F (b + 37619 + 300 * j)
def mM (F : Int → Int) (b s : Int) : Int := F (b + 39112 + 16 * s)
def mI (F : Int → Int) (b s : Int) : Int := F (b + 39113 + 16 * s)
/-- an item that leads -/
def ild (k : Int) : Prop := k = 2 ∨ k = 3 ∨ (5 ≤ k ∧ k ≤ 9)
/-- a word that is done: it ends by (0, 150), and what leads stays in it -/
def dEnd (F : Int → Int) (b i : Int) : Prop :=
  1 ≤ dL F b i ∧ iK F b (dV F b i + dL F b i - 1) = 0 ∧ iN F b (dV F b i + dL F b i - 1) = 150 ∧
  ∀ k, dV F b i ≤ k → k < dV F b i + dL F b i → ild (iK F b k) → dV F b i ≤ iN F b k ∧ iN F b k < dV F b i + dL F b i
/-- a live marker -/
def dMark (F : Int → Int) (b many ic i : Int) : Prop :=
  0 ≤ dV F b i ∧ dV F b i ≤ 31 ∧ mM F b (dV F b i) = i ∧ 0 ≤ mI F b (dV F b i) ∧ mI F b (dV F b i) ≤ ic ∧
  (∀ j, 0 ≤ j → j < i → dK F b j = 1 → dV F b j + dL F b j ≤ mI F b (dV F b i)) ∧
  (∀ j, i < j → j < many → dK F b j = 1 → mI F b (dV F b i) ≤ dV F b j) ∧
  (∀ k, 0 ≤ k → k < mI F b (dV F b i) → iK F b k = 0 ∨ iK F b k = 14 → iN F b k < i) ∧
  (∀ j, 0 ≤ j → j < i → dK F b j = 6 → mI F b (dV F b j) ≤ mI F b (dV F b i))
/-- how an item that leads, of a definition under way, is: it leads into it, or a pair keeps it -/
def dLead (F : Int → Int) (b ic pc st k : Int) : Prop :=
  (st ≤ iN F b k ∧ iN F b k ≤ ic) ∨ (∃ p, 0 ≤ p ∧ p < pc ∧ pP F b p = k ∧ (pK F b p = 1 ∨ pK F b p = 5 ∨ pK F b p = 6 ∨ (pK F b p = 3 ∧ iK F b k = 5))) ∨ (iK F b k = 8 ∧ ∃ p, 0 ≤ p ∧ p < pc ∧ pK F b p = 3 ∧ iN F b k = -2 - pP F b p ∧ pP F b p ≤ k)
/-- up to where items lead: not behind a last item (0, ..) that x names -/
def dZb (F : Int → Int) (b ic x : Int) : Int := if x = ic - 1 ∧ iK F b x = 0 then ic - 1 else ic
def dPair (F : Int → Int) (b ic st p : Int) : Prop :=
  st ≤ pP F b p ∧ pP F b p ≤ ic ∧ (pK F b p = 1 → pP F b p < ic ∧ (iK F b (pP F b p) = 2 ∨ iK F b (pP F b p) = 3)) ∧ (pK F b p = 3 → pP F b p < ic ∧ (iK F b (pP F b p) = 4 ∨ iK F b (pP F b p) = 5)) ∧ (pK F b p = 5 → pP F b p < ic ∧ iK F b (pP F b p) = 9) ∧ (pK F b p = 6 → pP F b p < ic ∧ iK F b (pP F b p) = 2)
def dFr (F : Int → Int) (b many ic w0 st j : Int) : Prop :=
  0 ≤ fT F b j ∧ fT F b j < many ∧ dK F b (fT F b j) = 1 ∧ dV F b (fT F b j) ≤ ic ∧ (1 ≤ j → w0 < fT F b j ∧ dI F b (fT F b j) = 1 ∧ st ≤ fJ F b j ∧ fJ F b j < ic ∧ iK F b (fJ F b j) = 2)
/-- a definition under way: w0, st its word and its start -/
def dOpen (F : Int → Int) (b many ic under pc x y w0 st : Int) : Prop :=
  (0 ≤ w0 ∧ w0 < many ∧ dK F b w0 = 1 ∧ dI F b w0 = 0 ∧ dV F b w0 = st ∧ fP F b 0 = 0 ∧ 0 ≤ st ∧ st ≤ ic) ∧
  (∀ i, w0 < i → i < many → dK F b i ≠ 6 ∧ (dK F b i = 1 → dI F b i = 1 ∧ st ≤ dV F b i)) ∧
  (∀ i, 0 ≤ i → i < w0 → dK F b i = 1 → dV F b i + dL F b i ≤ st) ∧
  (∀ k, 0 ≤ k → k < st → iK F b k = 0 ∨ iK F b k = 14 → iN F b k < w0) ∧
  (∀ j, 0 ≤ j → j < under → dFr F b many ic w0 st j) ∧
  (2 ≤ under → dJ F b w0 = 1) ∧
  (∀ p, 0 ≤ p → p < pc → dPair F b ic st p) ∧
  (under = 1 → dJ F b w0 = 0 → ∀ k, st ≤ k → k < ic → k ≠ x → ild (iK F b k) → dLead F b (dZb F b ic x) pc st k) ∧
  (x = -1 ∨ (st ≤ x ∧ x < ic)) ∧ (y = -1 ∨ (st ≤ y ∧ y ≤ ic))
def dD (F : Int → Int) (b many ic under pc x y : Int) : Prop :=
  (0 ≤ many ∧ many ≤ 360 ∧ (many = 0 ∨ 172 ≤ many) ∧ 0 ≤ ic ∧ ic ≤ 4000 ∧ 0 ≤ under ∧ under ≤ 5 ∧ 0 ≤ pc ∧ pc ≤ 32) ∧
  (∀ i, 0 ≤ i → i < many → i < 172 → dK F b i = 0) ∧
  (∀ i, 172 ≤ i → i < many → 1 ≤ dK F b i) ∧
  (∀ i, 0 ≤ i → i < many → dK F b i = 1 → 0 ≤ dV F b i ∧ 0 ≤ dL F b i ∧ dV F b i + dL F b i ≤ ic) ∧
  (∀ i, 0 ≤ i → i < many → dK F b i = 6 → dMark F b many ic i) ∧
  (∀ i j, 0 ≤ i → i < j → j < many → dK F b i = 1 → dK F b j = 1 → dI F b i = 0 → dI F b j = 0 → dV F b i + dL F b i ≤ dV F b j) ∧
  (∀ i, 0 ≤ i → i < many → dK F b i = 1 → dI F b i = 0 → dJ F b i = 0 → ¬ (1 ≤ under ∧ i = fT F b 0) → dEnd F b i) ∧
  (∀ k, 0 ≤ k → k < ic → iK F b k = 0 → 0 ≤ iN F b k ∧ iN F b k < many) ∧
  (∀ k, 0 ≤ k → k < ic → iK F b k = 14 → 0 ≤ iN F b k ∧ iN F b k < many ∧ (dK F b (iN F b k) = 4 ∨ dK F b (iN F b k) = 5)) ∧
  (∀ k, 0 ≤ k → k < ic → iK F b k = 4 ∨ (11 ≤ iK F b k ∧ iK F b k ≤ 13) → 0 ≤ iN F b k ∧ iN F b k ≤ 1048576) ∧
  (under = 0 → pc = 0) ∧ (1 ≤ under → dOpen F b many ic under pc x y (fT F b 0) (fS F b 0))
