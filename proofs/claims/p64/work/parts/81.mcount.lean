/-! THE REFERENCE'S COUNTS -/
theorem b2t : b2n true = 1 := rfl
theorem b2f : b2n false = 0 := rfl
section MQ
variable {h : Hp} {A D : AF}
end MQ
