/-! THE REFERENCE: inserting -/
def inM (f : Nat → Nat → Int32) (p i : Nat) : Nat → Nat → Int32 := fun a x => if a = 242 ∧ i ≤ x ∧ x < 133 ∧ 13 + 4 * (p + 1) ≤ x then f 242 (x - 4) else f a x
theorem inM_step (f : Nat → Nat → Int32) (p i : Nat) (h : 13 + 4 * (p + 1) ≤ i) (h2 : i < 133) : u2 (inM f p (i + 1)) 242 i (inM f p (i + 1) 242 (i - 4)) = inM f p i := by
  funext b x
  have e1 : inM f p (i + 1) 242 (i - 4) = f 242 (i - 4) := if_neg (by omega)
  rw [e1]
  unfold u2 inM
  by_cases q : b = 242 ∧ x = i
  · obtain ⟨rfl, rfl⟩ := q
    rw [if_pos ⟨rfl, rfl⟩, if_pos ⟨rfl, Nat.le_refl _, h2, h⟩]
  · rw [if_neg q]
    by_cases q2 : b = 242 ∧ i + 1 ≤ x ∧ x < 133 ∧ 13 + 4 * (p + 1) ≤ x
    · rw [if_pos q2, if_pos ⟨q2.1, by omega, q2.2.2⟩]
    · rw [if_neg q2, if_neg (by omega)]
/-- how many records come ahead of a source's key -/
def plN (g : Nat → Int32) (s k : Nat) (n : Nat) : Nat := sumN (fun j => b2n (decide (ms g j * 1000 + mk g j < s * 1000 + k))) n
theorem plN_le (g : Nat → Int32) (s k n : Nat) : plN g s k n ≤ n := by
  have := sumN_bd (f := fun j => b2n (decide (ms g j * 1000 + mk g j < s * 1000 + k))) (n := n) (b := 1) (fun i _ => by unfold b2n; split <;> omega)
  unfold plN
  omega
theorem pl_ok {g : Nat → Int32} {A D : AF} (R : RM g A D) (s k : Nat) : ∀ n, n ≤ tot A → (∀ j, j < plN g s k n → ms g j * 1000 + mk g j < s * 1000 + k) ∧ ∀ j, plN g s k n ≤ j → j < n → ¬(ms g j * 1000 + mk g j < s * 1000 + k) := by
  intro n
  induction n with
  | zero => exact fun _ => ⟨fun j hj => absurd hj (Nat.not_lt_zero _), fun j _ hj => absurd hj (Nat.not_lt_zero _)⟩
  | succ n ih =>
    intro hn
    obtain ⟨h1, h2⟩ := ih (by omega)
    have hl := plN_le g s k n
    have e : plN g s k (n + 1) = plN g s k n + b2n (decide (ms g n * 1000 + mk g n < s * 1000 + k)) := rfl
    rw [e]
    by_cases q : ms g n * 1000 + mk g n < s * 1000 + k
    · have hpn : plN g s k n = n := by
        by_cases q2 : plN g s k n = n
        · exact q2
        · have h3 := h2 (plN g s k n) (Nat.le_refl _) (by omega)
          have := R.lt (show plN g s k n < n by omega) (by omega)
          omega
      rw [decide_eq_true q, b2t, hpn]
      refine ⟨fun j hj => ?_, fun j h4 h5 => by omega⟩
      by_cases q3 : j = n
      · subst q3
        exact q
      · exact h1 j (by omega)
    · rw [decide_eq_false q, b2f, Nat.add_zero]
      refine ⟨h1, fun j h4 h5 => ?_⟩
      by_cases q3 : j = n
      · subst q3
        exact q
      · exact h2 j h4 (by omega)
