/-! THE REFERENCE: its row of numbers read -/
def gd (g : Nat → Int32) (k : Nat) : Nat := (g k).toNatClampNeg
def ms (g : Nat → Int32) (j : Nat) : Nat := gd g (13 + 4 * j) - 97
def mk (g : Nat → Int32) (j : Nat) : Nat := gd g (13 + 4 * j + 1)
def RM (g : Nat → Int32) (A D : AF) : Prop := g 1 = nI (tot A) ∧ tot A ≤ 30 ∧ (∀ j, j < tot A → g (13 + 4 * j) = nI (97 + ms g j) ∧ ms g j < 3 ∧ g (13 + 4 * j + 1) = nI (mk g j) ∧ mk g j < 1000 ∧ g (13 + 4 * j + 2) = nI (A (ms g j) (mk g j)) ∧ 0 < A (ms g j) (mk g j) ∧ A (ms g j) (mk g j) < 100 ∧ g (13 + 4 * j + 3) = nI (D (ms g j) (mk g j)) ∧ D (ms g j) (mk g j) < 1073741824) ∧ (∀ j j', j < j' → j' < tot A → ms g j * 1000 + mk g j < ms g j' * 1000 + mk g j') ∧ ∀ s k, s < 3 → k < 1000 → 0 < A s k → ∃ j, j < tot A ∧ ms g j = s ∧ mk g j = k
def RQ (g : Nat → Int32) (n : Nat) (Q : QF) : Prop := n ≤ 12 ∧ g 2 = nI n ∧ ∀ i, i < n → g (133 + 3 * i) = nI (97 + (Q i).1) ∧ g (133 + 3 * i + 1) = nI (Q i).2.1 ∧ g (133 + 3 * i + 2) = nI (Q i).2.2 ∧ (Q i).1 < 3 ∧ (Q i).2.1 < 1000 ∧ 0 < (Q i).2.2 ∧ (Q i).2.2 < 100
def RN (g : Nat → Int32) (b : Bk) : Prop := RM g (kA b) (kD b) ∧ RQ g (kN b) (kQ b) ∧ (∀ s, s < 3 → g (10 + s) = nI (kT b s) ∧ kT b s ≤ 9) ∧ (∀ i, i < 7 → g (3 + i) = nI (kU b i)) ∧ g 0 = nI (kY b)
def MdS (h : Hp) : Prop := HK h 241 = 9 ∧ (HR h 241 0 = 242 ∧ HR h 241 1 = 243 ∧ HR h 241 2 = 244 ∧ HR h 241 3 = 245 ∧ HR h 241 8 = 246 ∧ HR h 241 9 = 247 ∧ HR h 241 10 = 248 ∧ HR h 241 11 = 249 ∧ HR h 241 12 = 250 ∧ HR h 241 14 = 251 ∧ HR h 241 21 = 252) ∧ (HK h 242 = 100 ∧ HL h 242 = 169) ∧ (HK h 243 = 100 ∧ HL h 243 = 169) ∧ (HK h 244 = 100 ∧ HL h 244 = 169) ∧ (HK h 245 = 100 ∧ HL h 245 = 1352) ∧ (HK h 246 = 100 ∧ HL h 246 = 30) ∧ (HK h 247 = 100 ∧ HL h 247 = 30) ∧ (HK h 248 = 100 ∧ HL h 248 = 30) ∧ (HK h 249 = 100 ∧ HL h 249 = 30) ∧ (HK h 250 = 100 ∧ HL h 250 = 60) ∧ (HK h 251 = 100 ∧ HL h 251 = 160) ∧ (HK h 252 = 100 ∧ HL h 252 = 120)
section MD
variable {h : Hp} {A D : AF} {n : Nat} {Q : QF}
end MD
