/-! THE REFERENCE: its questions, first part -/
theorem i2c_nI {n : Nat} (h : n < 65536) : ((nI n).toUInt32 % 65536).toInt32 = nI n := by
  have e : (nI n).toUInt32 = UInt32.ofNat n := rfl
  have e2 : UInt32.ofNat n % 65536 = UInt32.ofNat n := by
    apply UInt32.toNat_inj.mp
    rw [UInt32.toNat_mod]
    have h1 : (UInt32.ofNat n).toNat = n := UInt32.toNat_ofNat_of_lt' (by show n < 4294967296; omega)
    rw [h1]
    exact Nat.mod_eq_of_lt h
  rw [e, e2]
  rfl
section MQ
variable {h : Hp} {b : Bk} {A D : AF}
theorem hs_in {s : Nat} (hs : s < 3) : inr 97 99 (nI (97 + s)) = true := inr_nI (by omega) (by omega) (by decide)
def mtB (b : Bk) : Nat := if kT b 0 < kT b 1 then (if kT b 1 < kT b 2 then 2 else 1) else (if kT b 0 < kT b 2 then 2 else 0)
end MQ
