/-! THE TABLE: put, level, remove -/
theorem u2_self {f : Nat → Nat → Int32} {a k : Nat} {v : Int32} (h : f a k = v) : u2 f a k v = f := by
  funext a' k'
  unfold u2
  split
  · rename_i hh
    rw [hh.1, hh.2, h]
  · rfl
theorem hol3_pos {x y z : Nat} : 0 < hol3 x y z ↔ 0 < x ∨ 0 < y ∨ 0 < z := by
  unfold hol3 b2n
  grind
theorem sA_self {A : AF} {s k v : Nat} (h : A s k = v) : sA A s k v = A := by
  funext s' k'
  unfold sA
  split
  · rename_i hh
    rw [hh.1, hh.2, h]
  · rfl
section UPD
variable {f g : Nat → Nat → Int32} {t : Nat} {A D : AF}
theorem RT.cgD (R : RT f t A D) {D' : AF} (h : ∀ s k, s < 3 → k < 1000 → 0 < A s k → D' s k = D s k) : RT f t A D' := by
  refine ⟨R.1, R.2.1, R.2.2.1, fun s r hs hr => ⟨R.a hs hr, fun h0 => ?_⟩, R.2.2.2.2⟩
  rw [h s _ hs (R.k9 hr) (by rw [R.a hs hr]; exact h0)]
  exact R.d hs hr h0
theorem RT.tn_tot (R : RT f t A D) : tn f t ≤ tot A := by
  have h1 := R.sum (F := fun k => hoA A k) (G := fun r => hoA A (tk f t r)) (fun r _ => rfl) (fun k hk h0 h1 h2 => by simp [hoA, hol3, b2n, h0, h1, h2])
  unfold tot
  rw [← h1]
  refine Nat.le_trans (Nat.le_of_eq ?_) (sumN_le (f := fun _ => 1) (fun r hr => ?_))
  · rw [sumN_c]
    omega
  · rw [R.ho hr]
    exact R.ne hr
end UPD
