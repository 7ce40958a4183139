/-! THE REFERENCE: the line of a record -/
def recL (b : Bk) (s k : Nat) : List Nat := ((((([97 + s] ++ dig k) ++ [61]) ++ dig (kA b s k)) ++ [32]) ++ [64]) ++ dig (kD b s k)
theorem la1 (L : List Nat) (c : Nat) : (L ++ [c]).length = L.length + 1 := List.length_append
theorem la2 (L M : List Nat) : (L ++ M).length = L.length + M.length := List.length_append
section LQ
variable {h : Hp} {b : Bk}
end LQ
