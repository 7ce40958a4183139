/-! THE REFERENCE: keys by status, amounts summed, places -/
def nkA (A : AF) : Nat := sumN (fun k => if 0 < hoA A k then 1 else 0) 1000
theorem hoA_pos {A : AF} {s k : Nat} (hs : s < 3) (h : 0 < A s k) : 0 < hoA A k := by
  refine hol3_pos.mpr ?_
  have : s = 0 ∨ s = 1 ∨ s = 2 := by omega
  rcases this with q | q | q <;> rw [q] at h
  · exact .inl h
  · exact .inr (.inl h)
  · exact .inr (.inr h)
theorem cwA_eq (A : AF) (c : Nat) : cwA A c = sumN (fun k => if 0 < hoA A k then b2n (decide (stA A k = c)) else 0) 1000 := sumN_eq (fun k _ => by
  by_cases q : 0 < hoA A k <;> simp [q, b2n])
theorem nkA_le (A : AF) : nkA A ≤ tot A := sumN_le (fun k _ => by
  split
  · assumption
  · omega)
theorem RT.nk {f : Nat → Nat → Int32} {t : Nat} {A D : AF} (R : RT f t A D) : tn f t = nkA A := by
  have := R.sum (F := fun k => if 0 < hoA A k then 1 else 0) (G := fun _ => 1) (fun r hr => by
    rw [if_pos]
    rw [R.ho hr]
    exact R.ne hr) (fun k _ h0 h1 h2 => by simp [hoA, hol3, h0, h1, h2, b2n])
  rw [sumN_c, Nat.mul_one] at this
  exact this
section MQ
variable {h : Hp} {A D : AF}
theorem keysOf_ok (S : MdS h) (R : RM (HI h 242) A D) {c : Nat} (hc : c < 112) : CL 271 [.ref 241, .int (nI c)] h = some (.ok (.int (nI (cwA A c))), h) := by
  have m30 := R.m30
  rw [cwA_eq, ← R.firsts (fun k => b2n (decide (stA A k = c))), e271]
  simp only [lz0]
  refine (lpUp (F := fun i => RF 271 4 [.ref 241, .int (nI c), .int (nI (sumN (fun j => if fsN (HI h 242) j j then b2n (decide (stA A (mk (HI h 242) j) = c)) else 0) i)), .int (nI i)] [] h) (Nat.zero_le (tot A)) (fun j _ hj => ?_)).trans ?_
  · have hb := R.b hj
    have hf := isFirst_ok S R hj
    have hk := of_k S R hj
    have ha := status_ok S R hb.2.1 (hoA_pos hb.1 hb.2.2.1)
    have hl : stA A (mk (HI h 242) j) < 112 := st3_lt _ _ _
    rw [e271_4]
    cases q : fsN (HI h 242) j j with
    | false => simp (disch := omega) only [S.f, S.cw (show 1 < 169 by decide), R.m, hj, hf, q, b2f, sumN, Bool.false_eq_true, cond_true, cond_false, bI_ok, bI_er, bV_ok, bV_er, bR_ok, bR_er, bD_ok, bD_er, bF_ok, bF_er, thr_ap, cl_nI, lt_nI, le_nI, eq_nI, m1_lt, nI_m1, m1_nI, nI_lt_m1, add_nI, sub_nI, addm_nI, z_addm, z_subm, mul_nI, fit1_0, fit1_1, fit2_n, HI_wI, HK_wI, HL_wI, HR_wI, ckK_wI, chI_wI, sI_wI, wI_wI, lz0, lz1, lz2, lz3, lz4, lz5, lz6, lz7, lz8, lz9, lz10, lz12, lz13, lz16, lz17, lz20, lz21, lz23, lz26, lz30, lz32, lz35, lz40, lz45, lz48, lz57, lz58, lz59, lz60, lz61, lz63, lz64, lz97, lz99, lz100, lz110, lz111, lz126, lz129, lz132, lz133, lz166, lz169, lz255, lz999, lz1183, lz1800, Nat.reduceAdd, Nat.reduceLT, Nat.reduceEqDiff, Nat.not_lt_zero, Nat.lt_irrefl, ↓reduceIte, Nat.zero_add, Nat.add_zero, ne_eq, not_true_eq_false, not_false_eq_true, reduceCtorEq]
    | true =>
      by_cases q2 : stA A (mk (HI h 242) j) = c
      · simp (disch := omega) only [S.f, S.cw (show 1 < 169 by decide), R.m, hj, hf, hk, ha, q, q2, b2t, sumN, decide_true, cond_true, cond_false, bI_ok, bI_er, bV_ok, bV_er, bR_ok, bR_er, bD_ok, bD_er, bF_ok, bF_er, thr_ap, cl_nI, lt_nI, le_nI, eq_nI, m1_lt, nI_m1, m1_nI, nI_lt_m1, add_nI, sub_nI, addm_nI, z_addm, z_subm, mul_nI, fit1_0, fit1_1, fit2_n, HI_wI, HK_wI, HL_wI, HR_wI, ckK_wI, chI_wI, sI_wI, wI_wI, lz0, lz1, lz2, lz3, lz4, lz5, lz6, lz7, lz8, lz9, lz10, lz12, lz13, lz16, lz17, lz20, lz21, lz23, lz26, lz30, lz32, lz35, lz40, lz45, lz48, lz57, lz58, lz59, lz60, lz61, lz63, lz64, lz97, lz99, lz100, lz110, lz111, lz126, lz129, lz132, lz133, lz166, lz169, lz255, lz999, lz1183, lz1800, Nat.reduceAdd, Nat.reduceLT, Nat.reduceEqDiff, Nat.not_lt_zero, Nat.lt_irrefl, ↓reduceIte, Nat.zero_add, Nat.add_zero, ne_eq, not_true_eq_false, not_false_eq_true, reduceCtorEq]
      · simp (disch := omega) only [S.f, S.cw (show 1 < 169 by decide), R.m, hj, hf, hk, ha, q, q2, b2t, b2f, sumN, decide_false, cond_true, cond_false, bI_ok, bI_er, bV_ok, bV_er, bR_ok, bR_er, bD_ok, bD_er, bF_ok, bF_er, thr_ap, cl_nI, lt_nI, le_nI, eq_nI, m1_lt, nI_m1, m1_nI, nI_lt_m1, add_nI, sub_nI, addm_nI, z_addm, z_subm, mul_nI, fit1_0, fit1_1, fit2_n, HI_wI, HK_wI, HL_wI, HR_wI, ckK_wI, chI_wI, sI_wI, wI_wI, lz0, lz1, lz2, lz3, lz4, lz5, lz6, lz7, lz8, lz9, lz10, lz12, lz13, lz16, lz17, lz20, lz21, lz23, lz26, lz30, lz32, lz35, lz40, lz45, lz48, lz57, lz58, lz59, lz60, lz61, lz63, lz64, lz97, lz99, lz100, lz110, lz111, lz126, lz129, lz132, lz133, lz166, lz169, lz255, lz999, lz1183, lz1800, Nat.reduceAdd, Nat.reduceLT, Nat.reduceEqDiff, Nat.not_lt_zero, Nat.lt_irrefl, ↓reduceIte, Nat.zero_add, Nat.add_zero, ne_eq, not_true_eq_false, not_false_eq_true, reduceCtorEq]
  · rw [e271_4]
    simp (disch := omega) only [S.f, S.cw (show 1 < 169 by decide), R.m, cond_true, cond_false, bI_ok, bI_er, bV_ok, bV_er, bR_ok, bR_er, bD_ok, bD_er, bF_ok, bF_er, thr_ap, cl_nI, lt_nI, le_nI, eq_nI, m1_lt, nI_m1, m1_nI, nI_lt_m1, add_nI, sub_nI, addm_nI, z_addm, z_subm, mul_nI, fit1_0, fit1_1, fit2_n, HI_wI, HK_wI, HL_wI, HR_wI, ckK_wI, chI_wI, sI_wI, wI_wI, lz0, lz1, lz2, lz3, lz4, lz5, lz6, lz7, lz8, lz9, lz10, lz12, lz13, lz16, lz17, lz20, lz21, lz23, lz26, lz30, lz32, lz35, lz40, lz45, lz48, lz57, lz58, lz59, lz60, lz61, lz63, lz64, lz97, lz99, lz100, lz110, lz111, lz126, lz129, lz132, lz133, lz166, lz169, lz255, lz999, lz1183, lz1800, Nat.reduceAdd, Nat.reduceLT, Nat.reduceEqDiff, Nat.not_lt_zero, Nat.lt_irrefl, ↓reduceIte, Nat.zero_add, Nat.add_zero, ne_eq, not_true_eq_false, not_false_eq_true, reduceCtorEq]
theorem keysOf_all (S : MdS h) (R : RM (HI h 242) A D) : CL 271 [.ref 241, .int (-1)] h = some (.ok (.int (nI (nkA A))), h) := by
  have m30 := R.m30
  unfold nkA
  rw [← R.firsts (fun k => 1), e271]
  simp only [lz0]
  refine (lpUp (F := fun i => RF 271 4 [.ref 241, .int (-1), .int (nI (sumN (fun j => if fsN (HI h 242) j j then 1 else 0) i)), .int (nI i)] [] h) (Nat.zero_le (tot A)) (fun j _ hj => ?_)).trans ?_
  · have hb := R.b hj
    have hf := isFirst_ok S R hj
    rw [e271_4]
    cases q : fsN (HI h 242) j j with
    | false => simp (disch := omega) only [S.f, S.cw (show 1 < 169 by decide), R.m, hj, hf, q, b2f, sumN, Bool.false_eq_true, cond_true, cond_false, bI_ok, bI_er, bV_ok, bV_er, bR_ok, bR_er, bD_ok, bD_er, bF_ok, bF_er, thr_ap, cl_nI, lt_nI, le_nI, eq_nI, m1_lt, nI_m1, m1_nI, nI_lt_m1, add_nI, sub_nI, addm_nI, z_addm, z_subm, mul_nI, fit1_0, fit1_1, fit2_n, HI_wI, HK_wI, HL_wI, HR_wI, ckK_wI, chI_wI, sI_wI, wI_wI, lz0, lz1, lz2, lz3, lz4, lz5, lz6, lz7, lz8, lz9, lz10, lz12, lz13, lz16, lz17, lz20, lz21, lz23, lz26, lz30, lz32, lz35, lz40, lz45, lz48, lz57, lz58, lz59, lz60, lz61, lz63, lz64, lz97, lz99, lz100, lz110, lz111, lz126, lz129, lz132, lz133, lz166, lz169, lz255, lz999, lz1183, lz1800, Nat.reduceAdd, Nat.reduceLT, Nat.reduceEqDiff, Nat.not_lt_zero, Nat.lt_irrefl, ↓reduceIte, Nat.zero_add, Nat.add_zero, ne_eq, not_true_eq_false, not_false_eq_true, reduceCtorEq]
    | true => simp (disch := omega) only [S.f, S.cw (show 1 < 169 by decide), R.m, hj, hf, q, b2t, sumN, cond_true, cond_false, bI_ok, bI_er, bV_ok, bV_er, bR_ok, bR_er, bD_ok, bD_er, bF_ok, bF_er, thr_ap, cl_nI, lt_nI, le_nI, eq_nI, m1_lt, nI_m1, m1_nI, nI_lt_m1, add_nI, sub_nI, addm_nI, z_addm, z_subm, mul_nI, fit1_0, fit1_1, fit2_n, HI_wI, HK_wI, HL_wI, HR_wI, ckK_wI, chI_wI, sI_wI, wI_wI, lz0, lz1, lz2, lz3, lz4, lz5, lz6, lz7, lz8, lz9, lz10, lz12, lz13, lz16, lz17, lz20, lz21, lz23, lz26, lz30, lz32, lz35, lz40, lz45, lz48, lz57, lz58, lz59, lz60, lz61, lz63, lz64, lz97, lz99, lz100, lz110, lz111, lz126, lz129, lz132, lz133, lz166, lz169, lz255, lz999, lz1183, lz1800, Nat.reduceAdd, Nat.reduceLT, Nat.reduceEqDiff, Nat.not_lt_zero, Nat.lt_irrefl, ↓reduceIte, Nat.zero_add, Nat.add_zero, ne_eq, not_true_eq_false, not_false_eq_true, reduceCtorEq]
  · rw [e271_4]
    simp (disch := omega) only [S.f, S.cw (show 1 < 169 by decide), R.m, cond_true, cond_false, bI_ok, bI_er, bV_ok, bV_er, bR_ok, bR_er, bD_ok, bD_er, bF_ok, bF_er, thr_ap, cl_nI, lt_nI, le_nI, eq_nI, m1_lt, nI_m1, m1_nI, nI_lt_m1, add_nI, sub_nI, addm_nI, z_addm, z_subm, mul_nI, fit1_0, fit1_1, fit2_n, HI_wI, HK_wI, HL_wI, HR_wI, ckK_wI, chI_wI, sI_wI, wI_wI, lz0, lz1, lz2, lz3, lz4, lz5, lz6, lz7, lz8, lz9, lz10, lz12, lz13, lz16, lz17, lz20, lz21, lz23, lz26, lz30, lz32, lz35, lz40, lz45, lz48, lz57, lz58, lz59, lz60, lz61, lz63, lz64, lz97, lz99, lz100, lz110, lz111, lz126, lz129, lz132, lz133, lz166, lz169, lz255, lz999, lz1183, lz1800, Nat.reduceAdd, Nat.reduceLT, Nat.reduceEqDiff, Nat.not_lt_zero, Nat.lt_irrefl, ↓reduceIte, Nat.zero_add, Nat.add_zero, ne_eq, not_true_eq_false, not_false_eq_true, reduceCtorEq]
theorem sumOfM_ok (S : MdS h) (R : RM (HI h 242) A D) {s : Nat} (hs : s < 3) : CL 280 [.ref 241, .int (nI (97 + s))] h = some (.ok (.int (nI (suA A s))), h) := by
  have m30 := R.m30
  have hsum : sumN (fun j => if ms (HI h 242) j = s then A (ms (HI h 242) j) (mk (HI h 242) j) else 0) (tot A) = suA A s := by
    rw [R.sum (F := fun s' k => if s' = s then A s' k else 0) (fun j hj => rfl) (fun s' k _ _ q => by simp [q])]
    have z : ∀ s', s' ≠ s → sumN (fun k => if s' = s then A s' k else 0) 1000 = 0 := fun s' q => sumN_0 (fun k _ => by simp [q])
    have o : sumN (fun k => if s = s then A s k else 0) 1000 = suA A s := sumN_eq (fun k _ => by simp)
    have : s = 0 ∨ s = 1 ∨ s = 2 := by omega
    rcases this with rfl | rfl | rfl
    · rw [o, z 1 (by decide), z 2 (by decide)]; simp only [Nat.add_zero]
    · rw [o, z 0 (by decide), z 2 (by decide), Nat.zero_add, Nat.add_zero]
    · rw [o, z 0 (by decide), z 1 (by decide), Nat.zero_add]
  have hne : ¬(nI (97 + s) = -nI 1) := by
    rw [nI_m1 (by omega)]
    exact id
  rw [← hsum, e280]
  simp only [lz0]
  refine (lpUp (F := fun i => RF 280 4 [.ref 241, .int (nI (97 + s)), .int (nI (sumN (fun j => if ms (HI h 242) j = s then A (ms (HI h 242) j) (mk (HI h 242) j) else 0) i)), .int (nI i)] [] h) (Nat.zero_le (tot A)) (fun j _ hj => ?_)).trans ?_
  · have hb := R.b hj
    have q1 := of_s S R hj
    have q2 := of_a S R hj
    have e : (97 + ms (HI h 242) j = 97 + s) = (ms (HI h 242) j = s) := propext (by omega)
    rw [e280_4]
    by_cases q : ms (HI h 242) j = s
    · simp (disch := omega) only [S.f, S.cw (show 1 < 169 by decide), R.m, hj, hne, q1, q2, q, sumN, cond_true, cond_false, bI_ok, bI_er, bV_ok, bV_er, bR_ok, bR_er, bD_ok, bD_er, bF_ok, bF_er, thr_ap, cl_nI, lt_nI, le_nI, eq_nI, m1_lt, nI_m1, m1_nI, nI_lt_m1, add_nI, sub_nI, addm_nI, z_addm, z_subm, mul_nI, fit1_0, fit1_1, fit2_n, HI_wI, HK_wI, HL_wI, HR_wI, ckK_wI, chI_wI, sI_wI, wI_wI, lz0, lz1, lz2, lz3, lz4, lz5, lz6, lz7, lz8, lz9, lz10, lz12, lz13, lz16, lz17, lz20, lz21, lz23, lz26, lz30, lz32, lz35, lz40, lz45, lz48, lz57, lz58, lz59, lz60, lz61, lz63, lz64, lz97, lz99, lz100, lz110, lz111, lz126, lz129, lz132, lz133, lz166, lz169, lz255, lz999, lz1183, lz1800, Nat.reduceAdd, Nat.reduceLT, Nat.reduceEqDiff, Nat.not_lt_zero, Nat.lt_irrefl, ↓reduceIte, Nat.zero_add, Nat.add_zero, ne_eq, not_true_eq_false, not_false_eq_true, reduceCtorEq]
    · simp (disch := omega) only [S.f, S.cw (show 1 < 169 by decide), R.m, hj, hne, q1, e, q, sumN, cond_true, cond_false, bI_ok, bI_er, bV_ok, bV_er, bR_ok, bR_er, bD_ok, bD_er, bF_ok, bF_er, thr_ap, cl_nI, lt_nI, le_nI, eq_nI, m1_lt, nI_m1, m1_nI, nI_lt_m1, add_nI, sub_nI, addm_nI, z_addm, z_subm, mul_nI, fit1_0, fit1_1, fit2_n, HI_wI, HK_wI, HL_wI, HR_wI, ckK_wI, chI_wI, sI_wI, wI_wI, lz0, lz1, lz2, lz3, lz4, lz5, lz6, lz7, lz8, lz9, lz10, lz12, lz13, lz16, lz17, lz20, lz21, lz23, lz26, lz30, lz32, lz35, lz40, lz45, lz48, lz57, lz58, lz59, lz60, lz61, lz63, lz64, lz97, lz99, lz100, lz110, lz111, lz126, lz129, lz132, lz133, lz166, lz169, lz255, lz999, lz1183, lz1800, Nat.reduceAdd, Nat.reduceLT, Nat.reduceEqDiff, Nat.not_lt_zero, Nat.lt_irrefl, ↓reduceIte, Nat.zero_add, Nat.add_zero, ne_eq, not_true_eq_false, not_false_eq_true, reduceCtorEq]
  · rw [e280_4]
    simp (disch := omega) only [S.f, S.cw (show 1 < 169 by decide), R.m, cond_true, cond_false, bI_ok, bI_er, bV_ok, bV_er, bR_ok, bR_er, bD_ok, bD_er, bF_ok, bF_er, thr_ap, cl_nI, lt_nI, le_nI, eq_nI, m1_lt, nI_m1, m1_nI, nI_lt_m1, add_nI, sub_nI, addm_nI, z_addm, z_subm, mul_nI, fit1_0, fit1_1, fit2_n, HI_wI, HK_wI, HL_wI, HR_wI, ckK_wI, chI_wI, sI_wI, wI_wI, lz0, lz1, lz2, lz3, lz4, lz5, lz6, lz7, lz8, lz9, lz10, lz12, lz13, lz16, lz17, lz20, lz21, lz23, lz26, lz30, lz32, lz35, lz40, lz45, lz48, lz57, lz58, lz59, lz60, lz61, lz63, lz64, lz97, lz99, lz100, lz110, lz111, lz126, lz129, lz132, lz133, lz166, lz169, lz255, lz999, lz1183, lz1800, Nat.reduceAdd, Nat.reduceLT, Nat.reduceEqDiff, Nat.not_lt_zero, Nat.lt_irrefl, ↓reduceIte, Nat.zero_add, Nat.add_zero, ne_eq, not_true_eq_false, not_false_eq_true, reduceCtorEq]
theorem sumOfM_all (S : MdS h) (R : RM (HI h 242) A D) : CL 280 [.ref 241, .int (-1)] h = some (.ok (.int (nI (suA A 0 + suA A 1 + suA A 2))), h) := by
  have m30 := R.m30
  have hsum : sumN (fun j => A (ms (HI h 242) j) (mk (HI h 242) j)) (tot A) = suA A 0 + suA A 1 + suA A 2 := R.sum (F := fun s' k => A s' k) (fun j hj => rfl) (fun s' k _ _ q => q)
  rw [← hsum, e280]
  simp only [lz0]
  refine (lpUp (F := fun i => RF 280 4 [.ref 241, .int (-1), .int (nI (sumN (fun j => A (ms (HI h 242) j) (mk (HI h 242) j)) i)), .int (nI i)] [] h) (Nat.zero_le (tot A)) (fun j _ hj => ?_)).trans ?_
  · have q2 := of_a S R hj
    rw [e280_4]
    simp (disch := omega) only [S.f, S.cw (show 1 < 169 by decide), R.m, hj, q2, sumN, cond_true, cond_false, bI_ok, bI_er, bV_ok, bV_er, bR_ok, bR_er, bD_ok, bD_er, bF_ok, bF_er, thr_ap, cl_nI, lt_nI, le_nI, eq_nI, m1_lt, nI_m1, m1_nI, nI_lt_m1, add_nI, sub_nI, addm_nI, z_addm, z_subm, mul_nI, fit1_0, fit1_1, fit2_n, HI_wI, HK_wI, HL_wI, HR_wI, ckK_wI, chI_wI, sI_wI, wI_wI, lz0, lz1, lz2, lz3, lz4, lz5, lz6, lz7, lz8, lz9, lz10, lz12, lz13, lz16, lz17, lz20, lz21, lz23, lz26, lz30, lz32, lz35, lz40, lz45, lz48, lz57, lz58, lz59, lz60, lz61, lz63, lz64, lz97, lz99, lz100, lz110, lz111, lz126, lz129, lz132, lz133, lz166, lz169, lz255, lz999, lz1183, lz1800, Nat.reduceAdd, Nat.reduceLT, Nat.reduceEqDiff, Nat.not_lt_zero, Nat.lt_irrefl, ↓reduceIte, Nat.zero_add, Nat.add_zero, ne_eq, not_true_eq_false, not_false_eq_true, reduceCtorEq]
  · rw [e280_4]
    simp (disch := omega) only [S.f, S.cw (show 1 < 169 by decide), R.m, cond_true, cond_false, bI_ok, bI_er, bV_ok, bV_er, bR_ok, bR_er, bD_ok, bD_er, bF_ok, bF_er, thr_ap, cl_nI, lt_nI, le_nI, eq_nI, m1_lt, nI_m1, m1_nI, nI_lt_m1, add_nI, sub_nI, addm_nI, z_addm, z_subm, mul_nI, fit1_0, fit1_1, fit2_n, HI_wI, HK_wI, HL_wI, HR_wI, ckK_wI, chI_wI, sI_wI, wI_wI, lz0, lz1, lz2, lz3, lz4, lz5, lz6, lz7, lz8, lz9, lz10, lz12, lz13, lz16, lz17, lz20, lz21, lz23, lz26, lz30, lz32, lz35, lz40, lz45, lz48, lz57, lz58, lz59, lz60, lz61, lz63, lz64, lz97, lz99, lz100, lz110, lz111, lz126, lz129, lz132, lz133, lz166, lz169, lz255, lz999, lz1183, lz1800, Nat.reduceAdd, Nat.reduceLT, Nat.reduceEqDiff, Nat.not_lt_zero, Nat.lt_irrefl, ↓reduceIte, Nat.zero_add, Nat.add_zero, ne_eq, not_true_eq_false, not_false_eq_true, reduceCtorEq]
end MQ
