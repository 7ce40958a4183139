/-! THE REFERENCE: a program read whole, and run -/
def TY (f : Nat → Nat → Int32) (x : Nat → Nat) (n : Nat) : Prop := f 241 13 = nI n ∧ n ≤ 60 ∧ ∀ i, i < n → f 250 i = nI (x i) ∧ 32 ≤ x i ∧ x i ≤ 126
section RM4
variable {h : Hp} {x : Nat → Nat} {n : Nat}
end RM4
