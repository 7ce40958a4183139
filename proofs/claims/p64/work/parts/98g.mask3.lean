/-! THE REFERENCE: disputedAt, reports asked for, totals, history -/
section MQ
variable {h : Hp} {b : Bk} {A D : AF}
/-- is there a report i? -/
def inN (n : Nat) (i : Int32) : Bool := decide (0 ≤ i) && decide (i < nI n)
end MQ
