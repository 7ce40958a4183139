/-! THE LAW: the amount that most have -/
def c3 (u x y z : Nat) : Nat := (if 0 < x ∧ x = u then 1 else 0) + (if 0 < y ∧ y = u then 1 else 0) + (if 0 < z ∧ z = u then 1 else 0)
theorem b2n_d (p : Prop) [Decidable p] : b2n (decide p) = if p then 1 else 0 := by
  by_cases q : p
  · rw [decide_eq_true q, if_pos q]
    rfl
  · rw [decide_eq_false q, if_neg q]
    rfl
theorem ctN_3 (A : AF) (k v : Nat) : ctN A k 3 v = c3 v (A 0 k) (A 1 k) (A 2 k) := by
  show 0 + b2n _ + b2n _ + b2n _ = _
  rw [b2n_d, b2n_d, b2n_d, Nat.zero_add]
  rfl
theorem hol_i (x y z : Nat) : hol3 x y z = (if 0 < x then 1 else 0) + (if 0 < y then 1 else 0) + (if 0 < z then 1 else 0) := by
  unfold hol3
  rw [b2n_d, b2n_d, b2n_d]
theorem d3_i (x y z : Nat) : d3 x y z = true ↔ (x ≠ 0 ∧ y ≠ 0 ∧ x ≠ y) ∨ (x ≠ 0 ∧ z ≠ 0 ∧ x ≠ z) ∨ (y ≠ 0 ∧ z ≠ 0 ∧ y ≠ z) := by
  unfold d3
  simp only [Bool.or_eq_true, Bool.and_eq_true, decide_eq_true_eq]
  omega
theorem ac_i (x y z : Nat) : (x ≠ 0 ∧ (x = y ∨ x = z) ∧ ac3 x y z = x) ∨ (¬(x ≠ 0 ∧ (x = y ∨ x = z)) ∧ y ≠ 0 ∧ y = z ∧ ac3 x y z = y) ∨ (¬(x ≠ 0 ∧ (x = y ∨ x = z)) ∧ ¬(y ≠ 0 ∧ y = z) ∧ ((x = 0 ∧ y = 0 ∧ ac3 x y z = z) ∨ (x = 0 ∧ y ≠ 0 ∧ z = 0 ∧ ac3 x y z = y) ∨ (x = 0 ∧ y ≠ 0 ∧ z ≠ 0 ∧ y < z ∧ ac3 x y z = y) ∨ (x = 0 ∧ y ≠ 0 ∧ z ≠ 0 ∧ z < y ∧ ac3 x y z = z) ∨ (x ≠ 0 ∧ y = 0 ∧ z = 0 ∧ ac3 x y z = x) ∨ (x ≠ 0 ∧ ac3 x y z ≠ 0 ∧ ac3 x y z ≤ x ∧ (y ≠ 0 → ac3 x y z ≤ y) ∧ (z ≠ 0 → ac3 x y z ≤ z) ∧ (ac3 x y z = x ∨ (y ≠ 0 ∧ ac3 x y z = y) ∨ (z ≠ 0 ∧ ac3 x y z = z))))) := by
  generalize hm : ac3 x y z = m
  unfold ac3 mn0 at hm
  repeat' split at hm
  all_goals omega
theorem hol_pos {x y z : Nat} (h : 0 < hol3 x y z) : x ≠ 0 ∨ y ≠ 0 ∨ z ≠ 0 := by
  rw [hol_i] at h
  by_cases q1 : 0 < x
  · omega
  · by_cases q2 : 0 < y
    · omega
    · rw [if_neg q1, if_neg q2] at h
      by_cases q3 : 0 < z
      · omega
      · rw [if_neg q3] at h
        omega
theorem ac_f1 {x y z : Nat} (h : x ≠ 0 ∨ y ≠ 0 ∨ z ≠ 0) : 0 < ac3 x y z ∧ ∀ u, c3 u x y z ≤ c3 (ac3 x y z) x y z := by
  have a := ac_i x y z
  generalize ac3 x y z = m at a ⊢
  refine ⟨by omega, fun u => ?_⟩
  unfold c3
  repeat' split
  all_goals omega
theorem ac_f2 {x y z : Nat} (h : x ≠ 0 ∨ y ≠ 0 ∨ z ≠ 0) : ∀ u, u < ac3 x y z → c3 u x y z < c3 (ac3 x y z) x y z := by
  have a := ac_i x y z
  generalize ac3 x y z = m at a ⊢
  intro u hu
  unfold c3
  repeat' split
  all_goals omega
theorem ac_f3 {x y z : Nat} (h : x ≠ 0 ∨ y ≠ 0 ∨ z ≠ 0) : c3 (ac3 x y z) x y z < hol3 x y z ↔ d3 x y z = true := by
  rw [d3_i, hol_i]
  have a := ac_i x y z
  generalize ac3 x y z = m at a ⊢
  unfold c3
  repeat' split
  all_goals omega
