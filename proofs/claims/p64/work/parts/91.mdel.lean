/-! THE REFERENCE: a record taken out of the row -/
theorem RM.del {g g' : Nat → Int32} {A D : AF} (R : RM g A D) {w : Nat} (hw : w < tot A) (g1 : g' 1 = nI (tot A - 1)) (hc : ∀ j c, j < tot A - 1 → c < 4 → g' (13 + 4 * j + c) = g (13 + 4 * (if w ≤ j then j + 1 else j) + c)) : RM g' (sA A (ms g w) (mk g w) 0) D := by
  have m30 := R.m30
  have bw := R.b hw
  have hT : tot (sA A (ms g w) (mk g w) 0) = tot A - 1 := by
    have := tot_sA A (s := ms g w) (k := mk g w) (v := 0) bw.1 bw.2.1
    simp only [bw.2.2.1, decide_true, b2t, Nat.lt_irrefl, decide_false, b2f] at this
    omega
  have es : ∀ j, j < tot A - 1 → ms g' j = ms g (if w ≤ j then j + 1 else j) := fun j hj => congrArg (fun x : Int32 => x.toNatClampNeg - 97) (hc j 0 hj (by decide))
  have ek : ∀ j, j < tot A - 1 → mk g' j = mk g (if w ≤ j then j + 1 else j) := fun j hj => congrArg Int32.toNatClampNeg (hc j 1 hj (by decide))
  have hlt : ∀ j, j < tot A - 1 → (if w ≤ j then j + 1 else j) < tot A := fun j hj => by split <;> omega
  have hne : ∀ j, j < tot A - 1 → ¬(ms g (if w ≤ j then j + 1 else j) = ms g w ∧ mk g (if w ≤ j then j + 1 else j) = mk g w) := fun j hj q => by
    have := R.inj (hlt j hj) hw q.1 q.2
    split at this <;> omega
  refine ⟨by rw [hT]; exact g1, by omega, fun j hj => ?_, fun j j' h1 h2 => ?_, fun s k hs hk h0 => ?_⟩
  · rw [hT] at hj
    have e0 := hc j 0 hj (by decide)
    rw [Nat.add_zero, Nat.add_zero] at e0
    rw [es j hj, ek j hj, e0, hc j 1 hj (by decide), hc j 2 hj (by decide), hc j 3 hj (by decide), sA_ne (hne j hj)]
    exact R.2.2.1 _ (hlt j hj)
  · rw [hT] at h2
    rw [es j (by omega), ek j (by omega), es j' h2, ek j' h2]
    refine R.lt ?_ (hlt j' h2)
    split <;> split <;> omega
  · have hsk : ¬(s = ms g w ∧ k = mk g w) := fun q => by
      rw [q.1, q.2, sA_eq] at h0
      omega
    rw [sA_ne hsk] at h0
    obtain ⟨j, h1, h2, h3⟩ := R.ex hs hk h0
    have hjw : j ≠ w := fun q => hsk ⟨by rw [← h2, q], by rw [← h3, q]⟩
    rw [hT]
    by_cases q : w < j
    · refine ⟨j - 1, by omega, ?_, ?_⟩
      · rw [es _ (by omega), if_pos (by omega), show j - 1 + 1 = j by omega, h2]
      · rw [ek _ (by omega), if_pos (by omega), show j - 1 + 1 = j by omega, h3]
    · refine ⟨j, by omega, ?_, ?_⟩
      · rw [es _ (by omega), if_neg (by omega), h2]
      · rw [ek _ (by omega), if_neg (by omega), h3]

