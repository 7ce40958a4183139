/-! THE REFERENCE: keys by status, amounts summed, places -/
def nkA (A : AF) : Nat := sumN (fun k => if 0 < hoA A k then 1 else 0) 1000
theorem hoA_pos {A : AF} {s k : Nat} (hs : s < 3) (h : 0 < A s k) : 0 < hoA A k := by
  refine hol3_pos.mpr ?_
  have : s = 0 ∨ s = 1 ∨ s = 2 := by omega
  rcases this with q | q | q <;> rw [q] at h
  · exact .inl h
  · exact .inr (.inl h)
  · exact .inr (.inr h)
theorem RT.nk {f : Nat → Nat → Int32} {t : Nat} {A D : AF} (R : RT f t A D) : tn f t = nkA A := by
  have := R.sum (F := fun k => if 0 < hoA A k then 1 else 0) (G := fun _ => 1) (fun r hr => by
    rw [if_pos]
    rw [R.ho hr]
    exact R.ne hr) (fun k _ h0 h1 h2 => by simp [hoA, hol3, h0, h1, h2, b2n])
  rw [sumN_c, Nat.mul_one] at this
  exact this
section MQ
variable {h : Hp} {A D : AF}
end MQ
