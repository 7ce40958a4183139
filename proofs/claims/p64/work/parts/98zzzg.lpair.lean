/-! THE LAW: a pair, by its own words -/
section LAW10
variable {N : Nat} {xs : Nat → Int32} {h g : Hp} {b : Bk} {y : Nat}
theorem b2n_ite (p : Bool) : nI (b2n p) = if p = true then (1 : Int32) else (0 : Int32) := by cases p <;> rfl
theorem pair_ok (K : LK N xs h b y) {s o k k' : Nat} (hs : s < 3) (ho : o < 3) (hk : k < 1000) (hk' : k' < 1000) (h1 : 0 < kA b s k) (h2 : 0 < kA b o k') : CL 194 [.ref 31, .int (nI (97 + s)), .int (nI k), .int (nI (97 + o)), .int (nI k')] h = some (.ok (.int (nI (b2n (ppA (kA b) s k o k')))), h) := by
  have a1 : kA b s k < 100 := by
    obtain ⟨r, r1, r2, r3, -⟩ := rqRec_t K.q K.rk hs hk h1
    have n30 := K.rk.t.n30
    rw [← r3]
    exact K.rk.t.N.a9 hs (by omega)
  have a2 : kA b o k' < 100 := by
    obtain ⟨r, r1, r2, r3, -⟩ := rqRec_t K.q K.rk ho hk' h2
    have n30 := K.rk.t.n30
    rw [← r3]
    exact K.rk.t.N.a9 ho (by omega)
  have e1 : (if 0 ≤ (nI k - nI k') then (nI k - nI k') else 0 - (nI k - nI k')) = nI (ab k k') := abs_nI (by omega) (by omega)
  have e2 : (if 0 ≤ (nI (kA b s k) - nI (kA b o k')) then (nI (kA b s k) - nI (kA b o k')) else 0 - (nI (kA b s k) - nI (kA b o k'))) = nI (ab (kA b s k) (kA b o k')) := abs_nI (by omega) (by omega)
  have b1 := ab_lt hk hk'
  have b2 := ab_lt a1 a2
  have f0 : fitc 1 (0 : Int32) = true := rfl
  have f1 : fitc 1 (1 : Int32) = true := rfl
  have tail : ∀ q : Bool, RF 194 39 [.ref 31, .int (nI (97 + s)), .int (nI k), .int (nI (97 + o)), .int (nI k'), .null] [.int (nI (b2n q))] h = some (.ok (.int (nI (b2n (q && decide (s ≠ o ∧ kA b s k' = 0 ∧ kA b o k = 0))))), h) := by
    intro q
    rw [e194_39]
    by_cases hso : s = o
    · rw [if_pos (by rw [hso]), f0, decide_eq_false (fun z => z.1 hso), Bool.and_false]
      rfl
    · rw [if_neg (by rw [eq_nI (by omega) (by omega)]; omega)]
      cases q with
      | false => rfl
      | true =>
        rw [if_neg (show ¬(nI (b2n true) = 0) by decide), K.k8, hasRecord_ok K.q K.rk hs hk']
        by_cases z1 : 0 < kA b s k'
        · rw [decide_eq_true z1, decide_eq_false (fun z => by omega)]
          rfl
        · rw [decide_eq_false z1]
          simp only [bI_ok, cond_true]
          rw [if_pos (show nI (b2n false) = 0 from rfl), K.k8, hasRecord_ok K.q K.rk ho hk]
          by_cases z2 : 0 < kA b o k
          · rw [decide_eq_true z2, decide_eq_false (fun z => by omega)]
            rfl
          · rw [decide_eq_false z2, decide_eq_true ⟨hso, by omega, by omega⟩]
            rfl
  have t0 := tail false
  have t1 := tail true
  rw [e194, e1, amountOf_ok K.q K.rk hs hk h1]
  have e4 : (nI (ab k k') < (21 : Int32)) = (ab k k' < 21) := lt_nI (by omega) (by decide)
  by_cases q1 : ab k k' < 21
  · rw [if_pos (e4.mpr q1), K.k8]
    simp only [bI_ok, cond_true, K.k8, amountOf_ok K.q K.rk ho hk' h2]
    rw [e2]
    have e3 : (nI (ab (kA b s k) (kA b o k')) < (6 : Int32)) = (ab (kA b s k) (kA b o k') < 6) := lt_nI (by omega) (by decide)
    by_cases q2 : ab (kA b s k) (kA b o k') < 6
    · rw [if_pos (e3.mpr q2)]
      refine Eq.trans t1 ?_
      refine congrArg (fun q : Bool => (some (Except.ok (Value.int (nI (b2n q))), h) : Res)) ?_
      unfold ppA
      rw [Bool.true_and, decide_eq_decide]
      constructor
      · rintro ⟨u1, u2, u3⟩
        exact ⟨u1, h1, h2, u2, u3, by omega, by omega⟩
      · rintro ⟨u1, u2, u3, u4, u5, u6, u7⟩
        exact ⟨u1, u4, u5⟩
    · rw [if_neg (fun z => q2 (e3.mp z))]
      refine Eq.trans t0 ?_
      refine congrArg (fun q : Bool => (some (Except.ok (Value.int (nI (b2n q))), h) : Res)) ?_
      unfold ppA
      rw [Bool.false_and]
      exact (decide_eq_false (fun z => by omega)).symm
  · rw [if_neg (fun z => q1 (e4.mp z))]
    refine Eq.trans t0 ?_
    refine congrArg (fun q : Bool => (some (Except.ok (Value.int (nI (b2n q))), h) : Res)) ?_
    unfold ppA
    rw [Bool.false_and]
    exact (decide_eq_false (fun z => by omega)).symm
end LAW10
