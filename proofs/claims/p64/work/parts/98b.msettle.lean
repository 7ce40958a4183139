/-! THE REFERENCE: settling -/
theorem tot_lvA (A : AF) {k a : Nat} (ha : 0 < a) : tot (lvA A k a) = tot A := by
  unfold tot hoA hol3 lvA
  refine sumN_eq (fun k' _ => ?_)
  have hq : ∀ y : Nat, b2n (decide (0 < if k' = k ∧ 0 < y then a else y)) = b2n (decide (0 < y)) := fun y => by
    split
    · rename_i hh
      simp [ha, hh.2]
    · rfl
  rw [hq, hq, hq]
theorem RM.level {g g' : Nat → Int32} {A D : AF} (R : RM g A D) {k a : Nat} (ha : 0 < a) (ha2 : a < 100) (hc : ∀ j, j < tot A → g' (13 + 4 * j + 2) = nI (if mk g j = k then a else A (ms g j) (mk g j))) (ho : ∀ z, z = 1 ∨ (13 ≤ z ∧ z < 133 ∧ z % 4 ≠ 3) → g' z = g z) : RM g' (lvA A k a) D := by
  have m30 := R.m30
  have es : ∀ j, j < tot A → ms g' j = ms g j := fun j hj => congrArg (fun x : Int32 => x.toNatClampNeg - 97) (ho (13 + 4 * j) (by omega))
  have ek : ∀ j, j < tot A → mk g' j = mk g j := fun j hj => congrArg Int32.toNatClampNeg (ho (13 + 4 * j + 1) (by omega))
  unfold RM
  rw [tot_lvA A ha]
  refine ⟨(ho 1 (by omega)).trans R.1, m30, fun j hj => ?_, fun j j' h1 h2 => ?_, fun s k' hs hk h0 => ?_⟩
  · have h1 := R.r hj
    have h2 := R.b hj
    rw [es j hj, ek j hj, ho _ (by omega), ho _ (by omega), hc j hj, ho _ (by omega)]
    have e : lvA A k a (ms g j) (mk g j) = if mk g j = k then a else A (ms g j) (mk g j) := by
      unfold lvA
      by_cases q : mk g j = k
      · rw [if_pos ⟨q, h2.2.2.1⟩, if_pos q]
      · rw [if_neg (fun z => q z.1), if_neg q]
    rw [e]
    refine ⟨h1.1, h2.1, h1.2.1, h2.2.1, rfl, ?_, ?_, h1.2.2.2, h2.2.2.2.2⟩
    · split <;> omega
    · split <;> omega
  · rw [es j (by omega), ek j (by omega), es j' h2, ek j' h2]
    exact R.lt h1 h2
  · have h0' : 0 < A s k' := by
      unfold lvA at h0
      split at h0
      · rename_i q
        exact q.2
      · exact h0
    obtain ⟨j, h1, h2, h3⟩ := R.ex hs hk h0'
    exact ⟨j, h1, (es j h1).trans h2, (ek j h1).trans h3⟩
section MC
variable {h : Hp} {b : Bk}
end MC
