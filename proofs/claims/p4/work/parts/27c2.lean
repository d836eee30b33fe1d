/-! THE LAW OVER CONTRACTS, 5: what calls do, in numbers -/
def bI (t n k0 k1 : Int) : Prop := 0 ≤ t ∧ t ≤ 1024 ∧ 0 ≤ n ∧ n ≤ 3 ∧ 0 ≤ k0 ∧ k0 ≤ 1 ∧ 0 ≤ k1 ∧ k1 ≤ 1
/-- systems are taken in their order -/
def uR (n u0 u1 u2 : Int) : Prop := 0 ≤ u2 ∧ u2 ≤ u1 ∧ u1 ≤ u0 ∧ u0 ≤ 1 ∧ n = u0 + u1 + u2
def spO (t n k0 k1 _r t2 n2 k02 k12 : Int) : Prop := t2 = t ∧ n2 = n ∧ k02 = k0 ∧ k12 = k1
def spE (_t n k0 k1 _r t2 n2 k02 k12 : Int) : Prop := t2 = 0 ∧ n2 = n ∧ k02 = k0 ∧ k12 = k1
def spW (t n k0 k1 r t2 n2 k02 k12 : Int) : Prop := r = t ∧ t2 = 0 ∧ n2 = n ∧ k02 = k0 ∧ k12 = k1
def spT (x t n k0 k1 r t2 n2 k02 k12 : Int) : Prop := (x ≤ 0 ∨ 9 ≤ x → r = -2 ∧ t2 = t) ∧ (1 ≤ x ∧ x ≤ 8 ∧ 1025 ≤ t + x → r = -4 ∧ t2 = t) ∧ (1 ≤ x ∧ x ≤ 8 ∧ t + x ≤ 1024 → r = t + x ∧ t2 = t + x) ∧ n2 = n ∧ k02 = k0 ∧ k12 = k1
def spS (x y t n k0 k1 r t2 n2 k02 k12 : Int) : Prop := (x ≤ 1 ∨ 5 ≤ x ∨ y ≤ -1 ∨ 8 ≤ y → r = -2 ∧ n2 = n) ∧ (2 ≤ x ∧ x ≤ 4 ∧ 0 ≤ y ∧ y ≤ 7 ∧ n = 3 → r = -4 ∧ n2 = n) ∧ (2 ≤ x ∧ x ≤ 4 ∧ 0 ≤ y ∧ y ≤ 7 ∧ n ≤ 2 → r = n ∧ n2 = n + 1) ∧ t2 = t ∧ k02 = k0 ∧ k12 = k1
def spP (x y z t n k0 k1 r t2 n2 k02 k12 : Int) : Prop := (x ≤ -1 ∨ n ≤ x ∨ y ≤ -1 ∨ 8 ≤ y ∨ z ≤ -1 ∨ 513 ≤ z + t → r = -2) ∧ (0 ≤ x ∧ x < n ∧ 0 ≤ y ∧ y ≤ 7 ∧ 0 ≤ z ∧ z + t ≤ 512 → r = t) ∧ t2 = 0 ∧ n2 = n ∧ k02 = k0 ∧ k12 = k1
def spK (x y t n k0 k1 r t2 n2 k02 k12 : Int) : Prop := (x ≤ -1 ∨ n ≤ x ∨ y ≤ -1 ∨ 2 ≤ y → r = -2 ∧ k02 = k0 ∧ k12 = k1) ∧ (0 ≤ x ∧ x < n ∧ y = 0 → r = 1 ∧ k02 = 1 ∧ k12 = k1) ∧ (0 ≤ x ∧ x < n ∧ y = 1 → r = 1 ∧ k02 = k0 ∧ k12 = 1) ∧ t2 = t ∧ n2 = n
def spA (x y t n k0 k1 r t2 n2 k02 k12 : Int) : Prop := (x ≤ -1 ∨ n + 1 ≤ x ∨ y ≤ -1 ∨ 2 ≤ y → r = -2 ∧ n2 = n) ∧ (0 ≤ x ∧ x ≤ n ∧ ((y = 0 ∧ k0 = 0) ∨ (y = 1 ∧ k1 = 0)) → r = -1 ∧ n2 = n) ∧ (0 ≤ x ∧ x ≤ n ∧ ((y = 0 ∧ k0 = 1) ∨ (y = 1 ∧ k1 = 1)) ∧ x = 3 → r = -4 ∧ n2 = n) ∧ (0 ≤ x ∧ x < n ∧ ((y = 0 ∧ k0 = 1) ∨ (y = 1 ∧ k1 = 1)) ∧ x ≤ 2 → r = x ∧ n2 = n) ∧ (0 ≤ x ∧ x = n ∧ ((y = 0 ∧ k0 = 1) ∨ (y = 1 ∧ k1 = 1)) ∧ x ≤ 2 → r = x ∧ n2 = n + 1) ∧ t2 = t ∧ k02 = k0 ∧ k12 = k1
