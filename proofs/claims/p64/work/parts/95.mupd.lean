/-! THE REFERENCE: a record's amount and day changed -/
theorem RM.upd {g g' : Nat → Int32} {A D : AF} (R : RM g A D) {w a d : Nat} (hw : w < tot A) (ha : 0 < a) (ha2 : a < 100) (hd : d < 1073741824) (h2 : g' (13 + 4 * w + 2) = nI a) (h3 : g' (13 + 4 * w + 3) = nI d) (hc : ∀ x, x ≠ 13 + 4 * w + 2 → x ≠ 13 + 4 * w + 3 → (x = 1 ∨ (13 ≤ x ∧ x < 133)) → g' x = g x) : RM g' (sA A (ms g w) (mk g w) a) (sA D (ms g w) (mk g w) d) := by
  have m30 := R.m30
  have bw := R.b hw
  have hT : tot (sA A (ms g w) (mk g w) a) = tot A := by
    have := tot_sA A (s := ms g w) (k := mk g w) (v := a) bw.1 bw.2.1
    simp only [bw.2.2.1, ha, decide_true, b2t] at this
    omega
  have es : ∀ j, j < tot A → ms g' j = ms g j := fun j hj => congrArg (fun x : Int32 => x.toNatClampNeg - 97) (hc (13 + 4 * j) (by omega) (by omega) (by omega))
  have ek : ∀ j, j < tot A → mk g' j = mk g j := fun j hj => congrArg Int32.toNatClampNeg (hc (13 + 4 * j + 1) (by omega) (by omega) (by omega))
  refine ⟨by rw [hT, hc 1 (by omega) (by omega) (by omega)]; exact R.m, by omega, fun j hj => ?_, fun j j' h1 h2 => ?_, fun s k hs hk h0 => ?_⟩
  · rw [hT] at hj
    rw [es j hj, ek j hj]
    by_cases q : j = w
    · subst q
      rw [sA_eq, sA_eq, hc (13 + 4 * j) (by omega) (by omega) (by omega), hc (13 + 4 * j + 1) (by omega) (by omega) (by omega)]
      exact ⟨(R.r hj).1, bw.1, (R.r hj).2.1, bw.2.1, h2, ha, ha2, h3, hd⟩
    · have hne : ¬(ms g j = ms g w ∧ mk g j = mk g w) := fun z => q (R.inj hj hw z.1 z.2)
      rw [sA_ne hne, sA_ne hne, hc (13 + 4 * j) (by omega) (by omega) (by omega), hc (13 + 4 * j + 1) (by omega) (by omega) (by omega), hc (13 + 4 * j + 2) (by omega) (by omega) (by omega), hc (13 + 4 * j + 3) (by omega) (by omega) (by omega)]
      exact R.2.2.1 j hj
  · rw [hT] at h2
    rw [es j (by omega), ek j (by omega), es j' h2, ek j' h2]
    exact R.lt h1 h2
  · rw [hT]
    by_cases q : s = ms g w ∧ k = mk g w
    · exact ⟨w, hw, (es w hw).trans q.1.symm, (ek w hw).trans q.2.symm⟩
    · rw [sA_ne q] at h0
      obtain ⟨j, z1, z2, z3⟩ := R.ex hs hk h0
      exact ⟨j, z1, (es j z1).trans z2, (ek j z1).trans z3⟩

