theorem RN.m {g : Nat → Int32} {b : Bk} (R : RN g b) : RM g (kA b) (kD b) := R.1
theorem RN.q {g : Nat → Int32} {b : Bk} (R : RN g b) : RQ g (kN b) (kQ b) := R.2.1
theorem RM.thr {f : Nat → Nat → Int32} {A D : AF} {v : Int32} (R : RM (f 242) A D) : RM (u2 f 241 16 v 242) A D := by
  have : u2 f 241 16 v 242 = f 242 := by
    funext k
    exact w2_ne (by omega)
  rw [this]
  exact R
theorem RQ.cong {g g' : Nat → Int32} {n : Nat} {Q : QF} (R : RQ g n Q) (h : ∀ k, k < 169 → 133 ≤ k ∨ k = 2 → g' k = g k) : RQ g' n Q := by
  have n12 := R.1
  refine ⟨R.1, (h 2 (by decide) (.inr rfl)).trans R.2.1, fun i hi => ?_⟩
  rw [h _ (by omega) (by omega), h _ (by omega) (by omega), h _ (by omega) (by omega)]
  exact R.2.2 i hi
theorem RM.congr {g g' : Nat → Int32} {A D : AF} (R : RM g A D) (h : ∀ k, (k = 1 ∨ (13 ≤ k ∧ k < 133)) → g' k = g k) : RM g' A D := by
  have m30 := R.m30
  have es : ∀ j, j < tot A → ms g' j = ms g j := fun j hj => congrArg (fun x : Int32 => x.toNatClampNeg - 97) (h (13 + 4 * j) (by omega))
  have ek : ∀ j, j < tot A → mk g' j = mk g j := fun j hj => congrArg Int32.toNatClampNeg (h (13 + 4 * j + 1) (by omega))
  refine ⟨(h 1 (by omega)).trans R.1, m30, fun j hj => ?_, fun j j' h1 h2 => ?_, fun s k hs hk h0 => ?_⟩
  · rw [es j hj, ek j hj, h _ (by omega), h _ (by omega), h _ (by omega), h _ (by omega)]
    exact R.2.2.1 j hj
  · rw [es j (by omega), ek j (by omega), es j' h2, ek j' h2]
    exact R.lt h1 h2
  · obtain ⟨j, h1, h2, h3⟩ := R.ex hs hk h0
    exact ⟨j, h1, (es j h1).trans h2, (ek j h1).trans h3⟩
section MC
variable {h : Hp} {b : Bk}
end MC
