/-! PAIRS -/
def abI (x : Int32) : Int32 := if 0 ≤ x then x else 0 - x
theorem absI (x : Int32) : (if 0 ≤ x then x else 0 - x) = abI x := rfl
theorem abI_nI {a b : Nat} (ha : a < 2147483648) (hb : b < 2147483648) : abI (nI a - nI b) = nI (ab a b) := abs_nI ha hb
def ppA (A : AF) (s k o k' : Nat) : Bool := decide (s ≠ o ∧ 0 < A s k ∧ 0 < A o k' ∧ A s k' = 0 ∧ A o k = 0 ∧ ab k k' ≤ 20 ∧ ab (A s k) (A o k') ≤ 5)
section PR
variable {h : Hp} {A D : AF}
theorem ps_pp {f : Nat → Nat → Int32} {t : Nat} (R : RT f t A D) {s o r q : Nat} (hs : s < 3) (ho : o < 3) (hso : s ≠ o) (hr : r < tn f t) (hq : q < tn f t) : ps f t s r o q = ppA A s (tk f t r) o (tk f t q) := by
  unfold ps ppA
  rw [R.a hs hr, R.a ho hq, R.a hs hq, R.a ho hr, decide_eq_decide]
  exact ⟨fun z => ⟨hso, z⟩, fun z => z.2⟩
/-- linked keys -/
def lkA (A : AF) (k k' : Nat) : Bool := ppA A 0 k 1 k' || ppA A 0 k 2 k' || ppA A 1 k 0 k' || ppA A 1 k 2 k' || ppA A 2 k 0 k' || ppA A 2 k 1 k'
theorem lk_A {f : Nat → Nat → Int32} {t : Nat} (R : RT f t A D) {r q : Nat} (hr : r < tn f t) (hq : q < tn f t) : lk f t r q = lkA A (tk f t r) (tk f t q) := by
  unfold lk lkA
  rw [ps_pp R (by decide) (by decide) (by decide) hr hq, ps_pp R (by decide) (by decide) (by decide) hr hq, ps_pp R (by decide) (by decide) (by decide) hr hq, ps_pp R (by decide) (by decide) (by decide) hr hq, ps_pp R (by decide) (by decide) (by decide) hr hq, ps_pp R (by decide) (by decide) (by decide) hr hq]
end PR
