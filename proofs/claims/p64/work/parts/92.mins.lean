/-! THE REFERENCE: a record put into the row -/
theorem RM.ins {g g' : Nat → Int32} {A D : AF} (R : RM g A D) {s k a d p : Nat} (hs : s < 3) (hk : k < 1000) (h0 : A s k = 0) (ha : 0 < a) (ha2 : a < 100) (hd : d < 1073741824) (hm : tot A < 30) (hp : p ≤ tot A) (q1 : ∀ j, j < p → ms g j * 1000 + mk g j < s * 1000 + k) (q2 : ∀ j, p ≤ j → j < tot A → s * 1000 + k < ms g j * 1000 + mk g j) (g1 : g' 1 = nI (tot A + 1)) (hp0 : g' (13 + 4 * p) = nI (97 + s)) (hp1 : g' (13 + 4 * p + 1) = nI k) (hp2 : g' (13 + 4 * p + 2) = nI a) (hp3 : g' (13 + 4 * p + 3) = nI d) (hc : ∀ j c, j ≤ tot A → j ≠ p → c < 4 → g' (13 + 4 * j + c) = g (13 + 4 * (if p < j then j - 1 else j) + c)) : RM g' (sA A s k a) (sA D s k d) := by
  have m30 := R.m30
  have hT : tot (sA A s k a) = tot A + 1 := by
    have := tot_sA A (s := s) (k := k) (v := a) hs hk
    rw [h0] at this
    simp only [ha, decide_true, b2t, Nat.lt_irrefl, decide_false, b2f] at this
    omega
  have ep : ms g' p = s ∧ mk g' p = k := by
    unfold ms mk gd
    rw [hp0, hp1, cl_nI (by omega), cl_nI (by omega)]
    exact ⟨by omega, rfl⟩
  have es : ∀ j, j ≤ tot A → j ≠ p → ms g' j = ms g (if p < j then j - 1 else j) := fun j hj hn => congrArg (fun x : Int32 => x.toNatClampNeg - 97) (hc j 0 hj hn (by decide))
  have ek : ∀ j, j ≤ tot A → j ≠ p → mk g' j = mk g (if p < j then j - 1 else j) := fun j hj hn => congrArg Int32.toNatClampNeg (hc j 1 hj hn (by decide))
  have hlt : ∀ j, j ≤ tot A → j ≠ p → (if p < j then j - 1 else j) < tot A := fun j hj hn => by split <;> omega
  have hne : ∀ i, i < tot A → ¬(ms g i = s ∧ mk g i = k) := fun i hi q => by
    have := R.b hi
    rw [q.1, q.2] at this
    omega
  refine ⟨by rw [hT]; exact g1, by omega, fun j hj => ?_, fun j j' h1 h2 => ?_, fun s' k' hs' hk' hh => ?_⟩
  · rw [hT] at hj
    by_cases q : j = p
    · subst q
      rw [ep.1, ep.2, sA_eq, sA_eq]
      exact ⟨hp0, hs, hp1, hk, hp2, ha, ha2, hp3, hd⟩
    · have e0 := hc j 0 (by omega) q (by decide)
      rw [Nat.add_zero, Nat.add_zero] at e0
      rw [es j (by omega) q, ek j (by omega) q, e0, hc j 1 (by omega) q (by decide), hc j 2 (by omega) q (by decide), hc j 3 (by omega) q (by decide), sA_ne (hne _ (hlt j (by omega) q)), sA_ne (hne _ (hlt j (by omega) q))]
      exact R.2.2.1 _ (hlt j (by omega) q)
  · rw [hT] at h2
    by_cases qj : j = p
    · rw [qj, ep.1, ep.2, es j' (by omega) (by omega), ek j' (by omega) (by omega)]
      rw [if_pos (by omega)]
      exact q2 _ (by omega) (by omega)
    · rw [es j (by omega) qj, ek j (by omega) qj]
      by_cases qj' : j' = p
      · rw [qj', ep.1, ep.2, if_neg (by omega)]
        exact q1 _ (by omega)
      · rw [es j' (by omega) qj', ek j' (by omega) qj']
        refine R.lt ?_ (hlt j' (by omega) qj')
        split <;> split <;> omega
  · rw [hT]
    by_cases q : s' = s ∧ k' = k
    · exact ⟨p, by omega, ep.1.trans q.1.symm, ep.2.trans q.2.symm⟩
    · rw [sA_ne q] at hh
      obtain ⟨j, h1, h2, h3⟩ := R.ex hs' hk' hh
      by_cases qj : j < p
      · refine ⟨j, by omega, ?_, ?_⟩
        · rw [es j (by omega) (by omega), if_neg (by omega), h2]
        · rw [ek j (by omega) (by omega), if_neg (by omega), h3]
      · refine ⟨j + 1, by omega, ?_, ?_⟩
        · rw [es _ (by omega) (by omega), if_pos (by omega), Nat.add_sub_cancel, h2]
        · rw [ek _ (by omega) (by omega), if_pos (by omega), Nat.add_sub_cancel, h3]

