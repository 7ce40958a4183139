/-! THE REFERENCE: its questions, first part -/
theorem i2c_nI {n : Nat} (h : n < 65536) : ((nI n).toUInt32 % 65536).toInt32 = nI n := by
  have e : (nI n).toUInt32 = UInt32.ofNat n := rfl
  have e2 : UInt32.ofNat n % 65536 = UInt32.ofNat n := by
    apply UInt32.toNat_inj.mp
    rw [UInt32.toNat_mod]
    have h1 : (UInt32.ofNat n).toNat = n := UInt32.toNat_ofNat_of_lt' (by show n < 4294967296; omega)
    rw [h1]
    exact Nat.mod_eq_of_lt h
  rw [e, e2]
  rfl
def tH (h : Hp) (t : Nat) : Hp := wI h (u2 (HI h) 241 16 (nI t))
section MQ
variable {h : Hp} {b : Bk} {A D : AF}
theorem RM.t (R : RM (HI h 242) A D) (t : Nat) : RM (HI (tH h t) 242) A D := R.thr (v := nI t)
theorem tH_c (h : Hp) (t a k : Nat) (ha : a ≠ 241) : HI (tH h t) a k = HI h a k := w2_ne (by omega)
theorem RN.t (R : RN (HI h 242) b) (t : Nat) : RN (HI (tH h t) 242) b := R.cong (fun k hk => tH_c h t 242 k (by decide))
theorem hs_in {s : Nat} (hs : s < 3) : inr 97 99 (nI (97 + s)) = true := inr_nI (by omega) (by omega) (by decide)
def mtB (b : Bk) : Nat := if kT b 0 < kT b 1 then (if kT b 1 < kT b 2 then 2 else 1) else (if kT b 0 < kT b 2 then 2 else 0)
end MQ
