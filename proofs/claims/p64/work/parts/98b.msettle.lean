/-! THE REFERENCE: settling -/
theorem tot_lvA (A : AF) {k a : Nat} (ha : 0 < a) : tot (lvA A k a) = tot A := by
  unfold tot hoA hol3 lvA
  refine sumN_eq (fun k' _ => ?_)
  have hq : ∀ y : Nat, b2n (decide (0 < if k' = k ∧ 0 < y then a else y)) = b2n (decide (0 < y)) := fun y => by
    split
    · rename_i hh
      simp [ha, hh.2]
    · rfl
  rw [hq, hq, hq]
section MC
variable {h : Hp} {b : Bk}
end MC
