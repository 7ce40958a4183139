/-! THE REFERENCE: what a report would be -/
def aN (p : Nat) : Int32 := if p = 0 then -nI 1 else nI p
def pvE (A : AF) (Q : QF) (s k e : Nat) : Nat := match la? (isP Q s k) e with
  | some j => (Q j).2.2
  | none => A s k
section MQ
variable {h : Hp} {A D : AF} {n : Nat} {Q : QF}
theorem outcomeM_ok (S : MdS h) (R : RM (HI h 242) A D) (Rq : RQ (HI h 242) n Q) {i : Nat} (hi : i < n) : CL 222 [.ref 241, .int (nI i)] h = some (.ok (.int (nI (oc A Q i))), h) := by
  have n12 := Rq.1
  have m30 := R.m30
  obtain ⟨_, _, _, b1, b2, b3, b4⟩ := Rq.2.2 i hi
  have o1 := or_s S Rq hi
  have o2 := or_k S Rq hi
  have o3 := or_a S Rq hi
  have hA9 := R.a9 b1 b2
  have hst : ∃ w, CL 222 [.ref 241, .int (nI i)] h = RF 222 44 [.ref 241, .int (nI i), .int (nI (97 + (Q i).1)), .int (nI (Q i).2.1), .int w, .int (aN (pvE A Q (Q i).1 (Q i).2.1 0)), .int (nI 0), .null] [] h := by
    have hp0 : pvE A Q (Q i).1 (Q i).2.1 0 = A (Q i).1 (Q i).2.1 := rfl
    rw [hp0]
    by_cases q : A (Q i).1 (Q i).2.1 = 0
    · have hf := find_n S R b1 b2 q
      refine ⟨-1, ?_⟩
      rw [e222]
      unfold aN
      rw [if_pos q]
      simp (disch := omega) only [S.f, o1, o2, hf, eq_self, cond_true, cond_false, bI_ok, bI_er, bV_ok, bV_er, bR_ok, bR_er, bD_ok, bD_er, bF_ok, bF_er, thr_ap, cl_nI, lt_nI, le_nI, eq_nI, m1_lt, nI_m1, m1_nI, nI_lt_m1, add_nI, sub_nI, addm_nI, z_addm, z_subm, mul_nI, fit1_0, fit1_1, fit2_n, HI_wI, HK_wI, HL_wI, HR_wI, ckK_wI, chI_wI, sI_wI, wI_wI, lz0, lz1, lz2, lz3, lz4, lz5, lz6, lz7, lz8, lz9, lz10, lz12, lz13, lz16, lz17, lz20, lz21, lz23, lz26, lz30, lz32, lz35, lz40, lz45, lz48, lz57, lz58, lz59, lz60, lz61, lz63, lz64, lz97, lz99, lz100, lz110, lz111, lz126, lz129, lz132, lz133, lz166, lz169, lz255, lz999, lz1183, lz1800, Nat.reduceAdd, Nat.reduceLT, Nat.reduceEqDiff, Nat.not_lt_zero, Nat.lt_irrefl, ↓reduceIte, Nat.zero_add, Nat.add_zero, ne_eq, not_true_eq_false, not_false_eq_true, reduceCtorEq]
    · obtain ⟨j, h1, h2, h3, hf⟩ := find_t S R b1 b2 (show 0 < A (Q i).1 (Q i).2.1 by omega)
      have ha := of_a S R h1
      rw [h2, h3] at ha
      refine ⟨nI j, ?_⟩
      rw [e222]
      unfold aN
      rw [if_neg q]
      simp (disch := omega) only [S.f, o1, o2, hf, ha, cond_true, cond_false, bI_ok, bI_er, bV_ok, bV_er, bR_ok, bR_er, bD_ok, bD_er, bF_ok, bF_er, thr_ap, cl_nI, lt_nI, le_nI, eq_nI, m1_lt, nI_m1, m1_nI, nI_lt_m1, add_nI, sub_nI, addm_nI, z_addm, z_subm, mul_nI, fit1_0, fit1_1, fit2_n, HI_wI, HK_wI, HL_wI, HR_wI, ckK_wI, chI_wI, sI_wI, wI_wI, lz0, lz1, lz2, lz3, lz4, lz5, lz6, lz7, lz8, lz9, lz10, lz12, lz13, lz16, lz17, lz20, lz21, lz23, lz26, lz30, lz32, lz35, lz40, lz45, lz48, lz57, lz58, lz59, lz60, lz61, lz63, lz64, lz97, lz99, lz100, lz110, lz111, lz126, lz129, lz132, lz133, lz166, lz169, lz255, lz999, lz1183, lz1800, Nat.reduceAdd, Nat.reduceLT, Nat.reduceEqDiff, Nat.not_lt_zero, Nat.lt_irrefl, ↓reduceIte, Nat.zero_add, Nat.add_zero, ne_eq, not_true_eq_false, not_false_eq_true, reduceCtorEq]
  obtain ⟨w, hst⟩ := hst
  obtain ⟨v, hv, _⟩ := lpEx (β := Value) (n := i) (x0 := Value.null) (P := fun _ _ => True) (F := fun e v => RF 222 44 [.ref 241, .int (nI i), .int (nI (97 + (Q i).1)), .int (nI (Q i).2.1), .int w, .int (aN (pvE A Q (Q i).1 (Q i).2.1 e)), .int (nI e), v] [] h) trivial (fun e v he _ => by
    obtain ⟨_, _, _, c1, c2, c3, c4⟩ := Rq.2.2 e (by omega)
    have p1 := or_s S Rq (i := e) (by omega)
    have p2 := or_k S Rq (i := e) (by omega)
    have p3 := or_a S Rq (i := e) (by omega)
    have hs : pvE A Q (Q i).1 (Q i).2.1 (e + 1) = if isP Q (Q i).1 (Q i).2.1 e then (Q e).2.2 else pvE A Q (Q i).1 (Q i).2.1 e := by
      unfold pvE
      rw [la_suc]
      cases isP Q (Q i).1 (Q i).2.1 e <;> rfl
    have ee : (97 + (Q e).1 = 97 + (Q i).1) = ((Q e).1 = (Q i).1) := propext (by omega)
    rw [hs]
    unfold isP
    by_cases q1 : (Q e).1 = (Q i).1
    · by_cases q2 : (Q e).2.1 = (Q i).2.1
      · refine ⟨.int (nI 1), ?_, trivial⟩
        have hz : ¬((Q e).2.2 = 0) := by omega
        have ha : aN (Q e).2.2 = nI (Q e).2.2 := if_neg hz
        rw [e222_44]
        simp (disch := omega) only [S.f, he, p1, p2, p3, ee, q1, q2, and_self, decide_true, ha, cond_true, cond_false, bI_ok, bI_er, bV_ok, bV_er, bR_ok, bR_er, bD_ok, bD_er, bF_ok, bF_er, thr_ap, cl_nI, lt_nI, le_nI, eq_nI, m1_lt, nI_m1, m1_nI, nI_lt_m1, add_nI, sub_nI, addm_nI, z_addm, z_subm, mul_nI, fit1_0, fit1_1, fit2_n, HI_wI, HK_wI, HL_wI, HR_wI, ckK_wI, chI_wI, sI_wI, wI_wI, lz0, lz1, lz2, lz3, lz4, lz5, lz6, lz7, lz8, lz9, lz10, lz12, lz13, lz16, lz17, lz20, lz21, lz23, lz26, lz30, lz32, lz35, lz40, lz45, lz48, lz57, lz58, lz59, lz60, lz61, lz63, lz64, lz97, lz99, lz100, lz110, lz111, lz126, lz129, lz132, lz133, lz166, lz169, lz255, lz999, lz1183, lz1800, Nat.reduceAdd, Nat.reduceLT, Nat.reduceEqDiff, Nat.not_lt_zero, Nat.lt_irrefl, ↓reduceIte, Nat.zero_add, Nat.add_zero, ne_eq, not_true_eq_false, not_false_eq_true, reduceCtorEq]
      · refine ⟨.int (nI 0), ?_, trivial⟩
        rw [e222_44]
        simp (disch := omega) only [S.f, he, p1, p2, p3, ee, q1, q2, and_false, decide_false, Bool.false_eq_true, cond_true, cond_false, bI_ok, bI_er, bV_ok, bV_er, bR_ok, bR_er, bD_ok, bD_er, bF_ok, bF_er, thr_ap, cl_nI, lt_nI, le_nI, eq_nI, m1_lt, nI_m1, m1_nI, nI_lt_m1, add_nI, sub_nI, addm_nI, z_addm, z_subm, mul_nI, fit1_0, fit1_1, fit2_n, HI_wI, HK_wI, HL_wI, HR_wI, ckK_wI, chI_wI, sI_wI, wI_wI, lz0, lz1, lz2, lz3, lz4, lz5, lz6, lz7, lz8, lz9, lz10, lz12, lz13, lz16, lz17, lz20, lz21, lz23, lz26, lz30, lz32, lz35, lz40, lz45, lz48, lz57, lz58, lz59, lz60, lz61, lz63, lz64, lz97, lz99, lz100, lz110, lz111, lz126, lz129, lz132, lz133, lz166, lz169, lz255, lz999, lz1183, lz1800, Nat.reduceAdd, Nat.reduceLT, Nat.reduceEqDiff, Nat.not_lt_zero, Nat.lt_irrefl, ↓reduceIte, Nat.zero_add, Nat.add_zero, ne_eq, not_true_eq_false, not_false_eq_true, reduceCtorEq]
    · refine ⟨.int (nI 0), ?_, trivial⟩
      rw [e222_44]
      simp (disch := omega) only [S.f, he, p1, p2, p3, ee, q1, false_and, decide_false, Bool.false_eq_true, cond_true, cond_false, bI_ok, bI_er, bV_ok, bV_er, bR_ok, bR_er, bD_ok, bD_er, bF_ok, bF_er, thr_ap, cl_nI, lt_nI, le_nI, eq_nI, m1_lt, nI_m1, m1_nI, nI_lt_m1, add_nI, sub_nI, addm_nI, z_addm, z_subm, mul_nI, fit1_0, fit1_1, fit2_n, HI_wI, HK_wI, HL_wI, HR_wI, ckK_wI, chI_wI, sI_wI, wI_wI, lz0, lz1, lz2, lz3, lz4, lz5, lz6, lz7, lz8, lz9, lz10, lz12, lz13, lz16, lz17, lz20, lz21, lz23, lz26, lz30, lz32, lz35, lz40, lz45, lz48, lz57, lz58, lz59, lz60, lz61, lz63, lz64, lz97, lz99, lz100, lz110, lz111, lz126, lz129, lz132, lz133, lz166, lz169, lz255, lz999, lz1183, lz1800, Nat.reduceAdd, Nat.reduceLT, Nat.reduceEqDiff, Nat.not_lt_zero, Nat.lt_irrefl, ↓reduceIte, Nat.zero_add, Nat.add_zero, ne_eq, not_true_eq_false, not_false_eq_true, reduceCtorEq])
  refine hst.trans (hv.trans ?_)
  have hpv : pvE A Q (Q i).1 (Q i).2.1 i = pv A Q i := rfl
  have hp9 : pv A Q i < 100 := by
    unfold pv
    cases hl : la? (isP Q (Q i).1 (Q i).2.1) i with
    | none => exact hA9
    | some j =>
      have := (la_some hl).1
      exact (Rq.2.2 j (by omega)).2.2.2.2.2.2
  rw [hpv, e222_44]
  unfold oc oc3 aN
  by_cases q1 : pv A Q i = 0
  · simp (disch := omega) only [S.f, o3, q1, eq_self, cond_true, cond_false, bI_ok, bI_er, bV_ok, bV_er, bR_ok, bR_er, bD_ok, bD_er, bF_ok, bF_er, thr_ap, cl_nI, lt_nI, le_nI, eq_nI, m1_lt, nI_m1, m1_nI, nI_lt_m1, add_nI, sub_nI, addm_nI, z_addm, z_subm, mul_nI, fit1_0, fit1_1, fit2_n, HI_wI, HK_wI, HL_wI, HR_wI, ckK_wI, chI_wI, sI_wI, wI_wI, lz0, lz1, lz2, lz3, lz4, lz5, lz6, lz7, lz8, lz9, lz10, lz12, lz13, lz16, lz17, lz20, lz21, lz23, lz26, lz30, lz32, lz35, lz40, lz45, lz48, lz57, lz58, lz59, lz60, lz61, lz63, lz64, lz97, lz99, lz100, lz110, lz111, lz126, lz129, lz132, lz133, lz166, lz169, lz255, lz999, lz1183, lz1800, Nat.reduceAdd, Nat.reduceLT, Nat.reduceEqDiff, Nat.not_lt_zero, Nat.lt_irrefl, ↓reduceIte, Nat.zero_add, Nat.add_zero, ne_eq, not_true_eq_false, not_false_eq_true, reduceCtorEq]
  · by_cases q2 : pv A Q i = (Q i).2.2
    · rw [q2] at q1
      simp (disch := omega) only [S.f, o3, q1, q2, cond_true, cond_false, bI_ok, bI_er, bV_ok, bV_er, bR_ok, bR_er, bD_ok, bD_er, bF_ok, bF_er, thr_ap, cl_nI, lt_nI, le_nI, eq_nI, m1_lt, nI_m1, m1_nI, nI_lt_m1, add_nI, sub_nI, addm_nI, z_addm, z_subm, mul_nI, fit1_0, fit1_1, fit2_n, HI_wI, HK_wI, HL_wI, HR_wI, ckK_wI, chI_wI, sI_wI, wI_wI, lz0, lz1, lz2, lz3, lz4, lz5, lz6, lz7, lz8, lz9, lz10, lz12, lz13, lz16, lz17, lz20, lz21, lz23, lz26, lz30, lz32, lz35, lz40, lz45, lz48, lz57, lz58, lz59, lz60, lz61, lz63, lz64, lz97, lz99, lz100, lz110, lz111, lz126, lz129, lz132, lz133, lz166, lz169, lz255, lz999, lz1183, lz1800, Nat.reduceAdd, Nat.reduceLT, Nat.reduceEqDiff, Nat.not_lt_zero, Nat.lt_irrefl, ↓reduceIte, Nat.zero_add, Nat.add_zero, ne_eq, not_true_eq_false, not_false_eq_true, reduceCtorEq]
    · simp (disch := omega) only [S.f, o3, q1, q2, cond_true, cond_false, bI_ok, bI_er, bV_ok, bV_er, bR_ok, bR_er, bD_ok, bD_er, bF_ok, bF_er, thr_ap, cl_nI, lt_nI, le_nI, eq_nI, m1_lt, nI_m1, m1_nI, nI_lt_m1, add_nI, sub_nI, addm_nI, z_addm, z_subm, mul_nI, fit1_0, fit1_1, fit2_n, HI_wI, HK_wI, HL_wI, HR_wI, ckK_wI, chI_wI, sI_wI, wI_wI, lz0, lz1, lz2, lz3, lz4, lz5, lz6, lz7, lz8, lz9, lz10, lz12, lz13, lz16, lz17, lz20, lz21, lz23, lz26, lz30, lz32, lz35, lz40, lz45, lz48, lz57, lz58, lz59, lz60, lz61, lz63, lz64, lz97, lz99, lz100, lz110, lz111, lz126, lz129, lz132, lz133, lz166, lz169, lz255, lz999, lz1183, lz1800, Nat.reduceAdd, Nat.reduceLT, Nat.reduceEqDiff, Nat.not_lt_zero, Nat.lt_irrefl, ↓reduceIte, Nat.zero_add, Nat.add_zero, ne_eq, not_true_eq_false, not_false_eq_true, reduceCtorEq]
theorem outcomes_ok (S : MdS h) (R : RM (HI h 242) A D) (Rq : RQ (HI h 242) n Q) {c : Nat} (hc : c < 112) : CL 223 [.ref 241, .int (nI c)] h = some (.ok (.int (nI (sumN (fun j => b2n (decide (oc A Q j = c))) n))), h) := by
  have n12 := Rq.1
  rw [e223]
  simp only [lz0]
  refine (lpUp (F := fun i => RF 223 4 [.ref 241, .int (nI c), .int (nI (sumN (fun j => b2n (decide (oc A Q j = c))) i)), .int (nI i)] [] h) (Nat.zero_le n) (fun j _ hj => ?_)).trans ?_
  · have ho := outcomeM_ok S R Rq hj
    have hl := oc_lt A Q j
    rw [e223_4]
    by_cases q : oc A Q j = c
    · simp (disch := omega) only [S.f, S.cw (show 2 < 169 by decide), Rq.2.1, hj, ho, q, sumN, decide_true, b2t, cond_true, cond_false, bI_ok, bI_er, bV_ok, bV_er, bR_ok, bR_er, bD_ok, bD_er, bF_ok, bF_er, thr_ap, cl_nI, lt_nI, le_nI, eq_nI, m1_lt, nI_m1, m1_nI, nI_lt_m1, add_nI, sub_nI, addm_nI, z_addm, z_subm, mul_nI, fit1_0, fit1_1, fit2_n, HI_wI, HK_wI, HL_wI, HR_wI, ckK_wI, chI_wI, sI_wI, wI_wI, lz0, lz1, lz2, lz3, lz4, lz5, lz6, lz7, lz8, lz9, lz10, lz12, lz13, lz16, lz17, lz20, lz21, lz23, lz26, lz30, lz32, lz35, lz40, lz45, lz48, lz57, lz58, lz59, lz60, lz61, lz63, lz64, lz97, lz99, lz100, lz110, lz111, lz126, lz129, lz132, lz133, lz166, lz169, lz255, lz999, lz1183, lz1800, Nat.reduceAdd, Nat.reduceLT, Nat.reduceEqDiff, Nat.not_lt_zero, Nat.lt_irrefl, ↓reduceIte, Nat.zero_add, Nat.add_zero, ne_eq, not_true_eq_false, not_false_eq_true, reduceCtorEq]
    · simp (disch := omega) only [S.f, S.cw (show 2 < 169 by decide), Rq.2.1, hj, ho, q, sumN, decide_false, b2f, cond_true, cond_false, bI_ok, bI_er, bV_ok, bV_er, bR_ok, bR_er, bD_ok, bD_er, bF_ok, bF_er, thr_ap, cl_nI, lt_nI, le_nI, eq_nI, m1_lt, nI_m1, m1_nI, nI_lt_m1, add_nI, sub_nI, addm_nI, z_addm, z_subm, mul_nI, fit1_0, fit1_1, fit2_n, HI_wI, HK_wI, HL_wI, HR_wI, ckK_wI, chI_wI, sI_wI, wI_wI, lz0, lz1, lz2, lz3, lz4, lz5, lz6, lz7, lz8, lz9, lz10, lz12, lz13, lz16, lz17, lz20, lz21, lz23, lz26, lz30, lz32, lz35, lz40, lz45, lz48, lz57, lz58, lz59, lz60, lz61, lz63, lz64, lz97, lz99, lz100, lz110, lz111, lz126, lz129, lz132, lz133, lz166, lz169, lz255, lz999, lz1183, lz1800, Nat.reduceAdd, Nat.reduceLT, Nat.reduceEqDiff, Nat.not_lt_zero, Nat.lt_irrefl, ↓reduceIte, Nat.zero_add, Nat.add_zero, ne_eq, not_true_eq_false, not_false_eq_true, reduceCtorEq]
  · rw [e223_4]
    simp (disch := omega) only [S.f, S.cw (show 2 < 169 by decide), Rq.2.1, cond_true, cond_false, bI_ok, bI_er, bV_ok, bV_er, bR_ok, bR_er, bD_ok, bD_er, bF_ok, bF_er, thr_ap, cl_nI, lt_nI, le_nI, eq_nI, m1_lt, nI_m1, m1_nI, nI_lt_m1, add_nI, sub_nI, addm_nI, z_addm, z_subm, mul_nI, fit1_0, fit1_1, fit2_n, HI_wI, HK_wI, HL_wI, HR_wI, ckK_wI, chI_wI, sI_wI, wI_wI, lz0, lz1, lz2, lz3, lz4, lz5, lz6, lz7, lz8, lz9, lz10, lz12, lz13, lz16, lz17, lz20, lz21, lz23, lz26, lz30, lz32, lz35, lz40, lz45, lz48, lz57, lz58, lz59, lz60, lz61, lz63, lz64, lz97, lz99, lz100, lz110, lz111, lz126, lz129, lz132, lz133, lz166, lz169, lz255, lz999, lz1183, lz1800, Nat.reduceAdd, Nat.reduceLT, Nat.reduceEqDiff, Nat.not_lt_zero, Nat.lt_irrefl, ↓reduceIte, Nat.zero_add, Nat.add_zero, ne_eq, not_true_eq_false, not_false_eq_true, reduceCtorEq]
theorem closes_ok (S : MdS h) (R : RM (HI h 242) A D) (Rq : RQ (HI h 242) n Q) : CL 224 [.ref 241] h = some (.ok (.int (nI (b2n (decide (tot A + nwA A Q n ≤ 30))))), h) := by
  have n12 := Rq.1
  have m30 := R.m30
  have ho : CL 223 [.ref 241, .int (nI 110)] h = some (.ok (.int (nI (nwA A Q n))), h) := outcomes_ok S R Rq (by decide)
  have hl := nwA_le A Q n
  rw [e224]
  by_cases q : tot A + nwA A Q n ≤ 30
  · simp (disch := omega) only [S.f, S.cw (show 1 < 169 by decide), R.m, ho, q, show ¬(30 < tot A + nwA A Q n) by omega, decide_true, b2t, cond_true, cond_false, bI_ok, bI_er, bV_ok, bV_er, bR_ok, bR_er, bD_ok, bD_er, bF_ok, bF_er, thr_ap, cl_nI, lt_nI, le_nI, eq_nI, m1_lt, nI_m1, m1_nI, nI_lt_m1, add_nI, sub_nI, addm_nI, z_addm, z_subm, mul_nI, fit1_0, fit1_1, fit2_n, HI_wI, HK_wI, HL_wI, HR_wI, ckK_wI, chI_wI, sI_wI, wI_wI, lz0, lz1, lz2, lz3, lz4, lz5, lz6, lz7, lz8, lz9, lz10, lz12, lz13, lz16, lz17, lz20, lz21, lz23, lz26, lz30, lz32, lz35, lz40, lz45, lz48, lz57, lz58, lz59, lz60, lz61, lz63, lz64, lz97, lz99, lz100, lz110, lz111, lz126, lz129, lz132, lz133, lz166, lz169, lz255, lz999, lz1183, lz1800, Nat.reduceAdd, Nat.reduceLT, Nat.reduceEqDiff, Nat.not_lt_zero, Nat.lt_irrefl, ↓reduceIte, Nat.zero_add, Nat.add_zero, ne_eq, not_true_eq_false, not_false_eq_true, reduceCtorEq]
  · simp (disch := omega) only [S.f, S.cw (show 1 < 169 by decide), R.m, ho, q, show 30 < tot A + nwA A Q n by omega, decide_false, b2f, cond_true, cond_false, bI_ok, bI_er, bV_ok, bV_er, bR_ok, bR_er, bD_ok, bD_er, bF_ok, bF_er, thr_ap, cl_nI, lt_nI, le_nI, eq_nI, m1_lt, nI_m1, m1_nI, nI_lt_m1, add_nI, sub_nI, addm_nI, z_addm, z_subm, mul_nI, fit1_0, fit1_1, fit2_n, HI_wI, HK_wI, HL_wI, HR_wI, ckK_wI, chI_wI, sI_wI, wI_wI, lz0, lz1, lz2, lz3, lz4, lz5, lz6, lz7, lz8, lz9, lz10, lz12, lz13, lz16, lz17, lz20, lz21, lz23, lz26, lz30, lz32, lz35, lz40, lz45, lz48, lz57, lz58, lz59, lz60, lz61, lz63, lz64, lz97, lz99, lz100, lz110, lz111, lz126, lz129, lz132, lz133, lz166, lz169, lz255, lz999, lz1183, lz1800, Nat.reduceAdd, Nat.reduceLT, Nat.reduceEqDiff, Nat.not_lt_zero, Nat.lt_irrefl, ↓reduceIte, Nat.zero_add, Nat.add_zero, ne_eq, not_true_eq_false, not_false_eq_true, reduceCtorEq]
end MQ
