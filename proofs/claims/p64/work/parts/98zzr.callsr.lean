/-! A RUN: what is true of its books -/
/-- the batch is in order -/
def Qv (b : Bk) : Prop := kN b ≤ 12 ∧ ∀ i, i < kN b → (kQ b i).1 < 3 ∧ (kQ b i).2.1 < 1000 ∧ 0 < (kQ b i).2.2
theorem Qv.eff {b : Bk} (V : Qv b) {j s k a : Nat} (hs : s < 3) (hk : k < 1000) (ha : a < 100) (hf : flB b j s k (nI a) = 0) : Qv (effB b j s k a) := by
  match j with
  | 0 =>
    have e : flB b 0 s k (nI a) = (if inr 1 99 (nI a) then (if kN b < 12 then 0 else 3) else 1) := rfl
    rw [e] at hf
    by_cases q : inr 1 99 (nI a) = true
    · rw [if_pos q] at hf
      by_cases q2 : kN b < 12
      · obtain ⟨w, w1, w2, w3⟩ := inr_t (by decide) (by decide) q
        have ea : a = w := by
          have := congrArg Int32.toNatClampNeg w3
          rw [cl_nI (by omega), cl_nI (by omega)] at this
          exact this
        refine ⟨?_, fun i hi => ?_⟩
        · show kN b + 1 ≤ 12
          omega
        · have hi' : i < kN b + 1 := hi
          show (adQ (kQ b) (kN b) s k a i).1 < 3 ∧ (adQ (kQ b) (kN b) s k a i).2.1 < 1000 ∧ 0 < (adQ (kQ b) (kN b) s k a i).2.2
          unfold adQ
          split
          · exact ⟨hs, hk, by show 0 < a; omega⟩
          · exact V.2 i (by omega)
      · rw [if_neg q2] at hf
        exact absurd hf (by decide)
    · rw [if_neg q] at hf
      exact absurd hf (by decide)
  | 1 =>
    refine ⟨?_, fun i hi => ?_⟩
    · show kN b - 1 ≤ 12
      have := V.1
      omega
    · have hi' : i < kN b - 1 := hi
      show (rmQ (kQ b) _ i).1 < 3 ∧ (rmQ (kQ b) _ i).2.1 < 1000 ∧ 0 < (rmQ (kQ b) _ i).2.2
      unfold rmQ
      split
      · exact V.2 (i + 1) (by omega)
      · exact V.2 i (by omega)
  | 2 => exact ⟨Nat.zero_le 12, fun i hi => absurd hi (Nat.not_lt_zero i)⟩
  | 3 => exact ⟨Nat.zero_le 12, fun i hi => absurd hi (Nat.not_lt_zero i)⟩
  | 4 => exact V
  | 5 => exact V
  | j + 6 => exact V
section CRN
variable {N : Nat} {xs : Nat → Int32} {s y : Nat} {h : Hp} {b : Bk} {m : Nat} {H : HF} {sv : Option Bk} {oe oq : Option Nat} {x : Nat → Nat} {n : Nat} {L : List Nat}
end CRN
