/-! THE CLASS: a command read -/
def PgS (h : Hp) : Prop := HK h 221 = 7 ∧ (HR h 221 0 = 222 ∧ HR h 221 2 = 223 ∧ HR h 221 3 = 224 ∧ HR h 221 4 = 225 ∧ HR h 221 5 = 226) ∧ (HK h 222 = 101 ∧ HL h 222 = 60) ∧ (HK h 223 = 100 ∧ HL h 223 = 60) ∧ (HK h 224 = 101 ∧ HL h 224 = 60) ∧ (HK h 225 = 100 ∧ HL h 225 = 60) ∧ (HK h 226 = 100 ∧ HL h 226 = 60)
def TX (f : Nat → Nat → Int32) (x : Nat → Nat) (n : Nat) : Prop := f 221 1 = nI n ∧ n ≤ 60 ∧ ∀ i, i < n → f 222 i = nI (x i) ∧ 32 ≤ x i ∧ x i ≤ 126
section PG
variable {h : Hp} {x : Nat → Nat} {n : Nat}
theorem PgS.wI (S : PgS h) (f : Nat → Nat → Int32) : PgS (wI h f) := S
theorem PgS.f (S : PgS h) : ckK h 221 7 = true ∧ HR h 221 0 = 222 ∧ HR h 221 2 = 223 ∧ HR h 221 3 = 224 ∧ HR h 221 4 = 225 ∧ HR h 221 5 = 226 := ⟨ck_of S.1, S.2.1⟩
theorem PgS.c (S : PgS h) {i : Nat} (hi : i < 60) : chI h 222 101 (nI i) = true ∧ chI h 223 100 (nI i) = true ∧ chI h 224 101 (nI i) = true ∧ chI h 225 100 (nI i) = true ∧ chI h 226 100 (nI i) = true := ⟨chI_nI S.2.2.1.1 S.2.2.1.2 hi (by decide), chI_nI S.2.2.2.1.1 S.2.2.2.1.2 hi (by decide), chI_nI S.2.2.2.2.1.1 S.2.2.2.2.1.2 hi (by decide), chI_nI S.2.2.2.2.2.1.1 S.2.2.2.2.2.1.2 hi (by decide), chI_nI S.2.2.2.2.2.2.1 S.2.2.2.2.2.2.2 hi (by decide)⟩
end PG
