/-! THE REFERENCE MADE: its cells -/
theorem ck_hnew {h : Hp} {t x : Nat} (hc : ckK h t x = true) (ht : t < HN h) (k l : Nat) : ckK (hnew h k l) t x = true := (ckK_hnew h ht).trans hc
section GM
variable {h : Hp} {t : Nat}
theorem sz30 : (decide ((0 : Int32) ≤ (30 : Int32)) && decide ((30 : Int32) ≤ 100000)) = true := by decide
theorem nz30 : (30 : Int32).toNatClampNeg = 30 := by decide
theorem sz60 : (decide ((0 : Int32) ≤ (60 : Int32)) && decide ((60 : Int32) ≤ 100000)) = true := by decide
theorem nz60 : (60 : Int32).toNatClampNeg = 60 := by decide
end GM
