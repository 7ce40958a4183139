/-! THE REFERENCE: a change begins and ends -/
theorem RM.cong {g g' : Nat → Int32} {A D : AF} (R : RM g A D) (h : ∀ k, k < 169 → g' k = g k) : RM g' A D := by
  have m30 := R.m30
  have es : ∀ j, j < tot A → ms g' j = ms g j := fun j hj => congrArg (fun x : Int32 => x.toNatClampNeg - 97) (h (13 + 4 * j) (by omega))
  have ek : ∀ j, j < tot A → mk g' j = mk g j := fun j hj => congrArg Int32.toNatClampNeg (h (13 + 4 * j + 1) (by omega))
  refine ⟨(h 1 (by decide)).trans R.1, m30, fun j hj => ?_, fun j j' h1 h2 => ?_, fun s k hs hk h0 => ?_⟩
  · rw [es j hj, ek j hj, h _ (by omega), h _ (by omega), h _ (by omega), h _ (by omega)]
    exact R.2.2.1 j hj
  · rw [es j (by omega), ek j (by omega), es j' h2, ek j' h2]
    exact R.lt h1 h2
  · obtain ⟨j, h1, h2, h3⟩ := R.ex hs hk h0
    exact ⟨j, h1, (es j h1).trans h2, (ek j h1).trans h3⟩
theorem RN.cong {g g' : Nat → Int32} {b : Bk} (R : RN g b) (h : ∀ k, k < 169 → g' k = g k) : RN g' b := by
  have n12 := R.2.1.1
  refine ⟨R.1.cong h, ⟨n12, (h 2 (by decide)).trans R.2.1.2.1, fun i hi => ?_⟩, fun s hs => ?_, fun i hi => ?_, (h 0 (by decide)).trans R.2.2.2.2⟩
  · rw [h _ (by omega), h _ (by omega), h _ (by omega)]
    exact R.2.1.2.2 i hi
  · rw [h _ (by omega)]
    exact R.2.2.1 s hs
  · rw [h _ (by omega)]
    exact R.2.2.2.1 i hi
/-- the reference's history: m books, the newest one first -/
def RG (f : Nat → Nat → Int32) (m : Nat) (H : HF) : Prop := m ≤ 8 ∧ f 241 5 = nI m ∧ ∀ i, i < m → RN (fun k => f 245 (169 * (m - 1 - i) + k)) (H i)
section BE
variable {h : Hp}
end BE
