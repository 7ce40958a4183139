section MQ
variable {h : Hp} {b : Bk} {A D : AF}
/-- how many records of a source lie in front of one -/
theorem RM.place {g : Nat → Int32} (R : RM g A D) {s j : Nat} (hs : s < 3) (hj : j < tot A) (hjs : ms g j = s) : sumN (fun i => b2n (decide (ms g i = s))) j = sumN (fun k => b2n (decide (0 < A s k))) (mk g j) := by
  have hb := R.b hj
  have h1 : sumN (fun i => b2n (decide (i < j ∧ ms g i = s))) (tot A) = sumN (fun i => b2n (decide (ms g i = s))) j := by
    rw [sumN_cut (m := j) (by omega) (fun k q1 q2 => by rw [decide_eq_false (by omega)]; rfl)]
    exact sumN_eq (fun i hi => by
      congr 1
      rw [decide_eq_decide]
      exact ⟨fun q => q.2, fun q => ⟨hi, q⟩⟩)
  rw [← h1, R.sum (F := fun s' k' => b2n (decide (s' = s ∧ 0 < A s' k' ∧ k' < mk g j))) (fun i hi => by
    have hbi := R.b hi
    congr 1
    rw [decide_eq_decide]
    constructor
    · rintro ⟨q1, q2⟩
      have := R.lt q1 hj
      exact ⟨q2, hbi.2.2.1, by omega⟩
    · rintro ⟨q1, _, q3⟩
      refine ⟨?_, q1⟩
      rcases Nat.lt_trichotomy i j with q | q | q
      · exact q
      · subst q
        omega
      · have := R.lt q hi
        omega) (fun s' k' _ _ q => by rw [q, decide_eq_false (by omega)]; rfl)]
  have z : ∀ s', s' ≠ s → sumN (fun k => b2n (decide (s' = s ∧ 0 < A s' k ∧ k < mk g j))) 1000 = 0 := fun s' q => sumN_0 (fun k _ => by rw [decide_eq_false (fun z => q z.1)]; rfl)
  have o : sumN (fun k => b2n (decide (s = s ∧ 0 < A s k ∧ k < mk g j))) 1000 = sumN (fun k => b2n (decide (0 < A s k))) (mk g j) := by
    rw [sumN_cut (m := mk g j) (by omega) (fun k q1 q2 => by rw [decide_eq_false (by omega)]; rfl)]
    exact sumN_eq (fun k hk => by
      congr 1
      rw [decide_eq_decide]
      exact ⟨fun q => q.2.1, fun q => ⟨rfl, q, hk⟩⟩)
  have : s = 0 ∨ s = 1 ∨ s = 2 := by omega
  rcases this with rfl | rfl | rfl
  · rw [o, z 1 (by decide), z 2 (by decide)]; simp only [Nat.add_zero]
  · rw [o, z 0 (by decide), z 2 (by decide), Nat.zero_add, Nat.add_zero]
  · rw [o, z 0 (by decide), z 1 (by decide), Nat.zero_add]
end MQ
