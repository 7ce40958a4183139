/-! THE CLASS: the line of the batch -/
section CL4
variable {h : Hp} {f : Nat → Nat → Int32} {L : List Nat} {c A B : Nat} {b : Bk}
end CL4
