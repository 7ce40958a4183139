/-! THE REFERENCE'S COUNTS -/
theorem b2t : b2n true = 1 := rfl
theorem b2f : b2n false = 0 := rfl
section MQ
variable {h : Hp} {A D : AF}
theorem RM.sum {g : Nat → Int32} (R : RM g A D) {F : Nat → Nat → Nat} {G : Nat → Nat} (hG : ∀ j, j < tot A → G j = F (ms g j) (mk g j)) (h0 : ∀ s k, s < 3 → k < 1000 → A s k = 0 → F s k = 0) : sumN G (tot A) = sumN (F 0) 1000 + sumN (F 1) 1000 + sumN (F 2) 1000 := by
  have h1 : sumN G (tot A) = sumN (fun c => F (c / 1000) (c % 1000)) (1000 + 1000 + 1000) := by
    rw [sumN_eq (g := fun j => F ((ms g j * 1000 + mk g j) / 1000) ((ms g j * 1000 + mk g j) % 1000)) (fun j hj => by
      have hb := R.b hj
      rw [hG j hj, show (ms g j * 1000 + mk g j) / 1000 = ms g j by omega, show (ms g j * 1000 + mk g j) % 1000 = mk g j by omega])]
    refine sum_rows (key := fun j => ms g j * 1000 + mk g j) (F := fun c => F (c / 1000) (c % 1000)) (fun r r' q1 q2 => R.lt q1 q2) (fun r hr => by
      have hb := R.b hr
      omega) (fun c hc hno => ?_)
    refine h0 _ _ (by omega) (by omega) ?_
    by_cases q : A (c / 1000) (c % 1000) = 0
    · exact q
    · obtain ⟨j, q1, q2, q3⟩ := R.ex (s := c / 1000) (k := c % 1000) (by omega) (by omega) (by omega)
      exact absurd (by rw [q2, q3]; omega) (hno j q1)
  rw [h1, sumN_cat, sumN_cat]
  have e0 : sumN (fun c => F (c / 1000) (c % 1000)) 1000 = sumN (F 0) 1000 := sumN_eq (fun i hi => by rw [show i / 1000 = 0 by omega, show i % 1000 = i by omega])
  have e1 : sumN (fun i => F ((1000 + i) / 1000) ((1000 + i) % 1000)) 1000 = sumN (F 1) 1000 := sumN_eq (fun i hi => by rw [show (1000 + i) / 1000 = 1 by omega, show (1000 + i) % 1000 = i by omega])
  have e2 : sumN (fun i => F ((1000 + 1000 + i) / 1000) ((1000 + 1000 + i) % 1000)) 1000 = sumN (F 2) 1000 := sumN_eq (fun i hi => by rw [show (1000 + 1000 + i) / 1000 = 2 by omega, show (1000 + 1000 + i) % 1000 = i by omega])
  rw [e0, e1, e2]
end MQ
