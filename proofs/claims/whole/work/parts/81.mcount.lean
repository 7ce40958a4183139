/-! THE REFERENCE'S COUNTS -/
theorem b2t : b2n true = 1 := rfl
theorem b2f : b2n false = 0 := rfl
section MQ
variable {h : Hp} {A D : AF}
theorem RM.sum {g : Nat → Int32} (R : RM g A D) {F : Nat → Nat → Nat} {G : Nat → Nat} (hG : ∀ j, j < tot A → G j = F (ms g j) (mk g j)) (h0 : ∀ s k, s < 3 → k < 1000 → A s k = 0 → F s k = 0) : sumN G (tot A) = sumN (F 0) 1000 + sumN (F 1) 1000 + sumN (F 2) 1000 := by
  have h1 : sumN G (tot A) = sumN (fun c => F (c / 1000) (c % 1000)) (1000 + 1000 + 1000) := by
    rw [sumN_eq (g := fun j => F ((ms g j * 1000 + mk g j) / 1000) ((ms g j * 1000 + mk g j) % 1000)) (fun j hj => by
      have hb := R.b hj
      rw [hG j hj, show (ms g j * 1000 + mk g j) / 1000 = ms g j by omega, show (ms g j * 1000 + mk g j) % 1000 = mk g j by omega])]
    refine sum_rows (key := fun j => ms g j * 1000 + mk g j) (F := fun c => F (c / 1000) (c % 1000)) (fun r r' q1 q2 => R.lt q1 q2) (fun r hr => by
      have hb := R.b hr
      omega) (fun c hc hno => ?_)
    refine h0 _ _ (by omega) (by omega) ?_
    by_cases q : A (c / 1000) (c % 1000) = 0
    · exact q
    · obtain ⟨j, q1, q2, q3⟩ := R.ex (s := c / 1000) (k := c % 1000) (by omega) (by omega) (by omega)
      exact absurd (by rw [q2, q3]; omega) (hno j q1)
  rw [h1, sumN_cat, sumN_cat]
  have e0 : sumN (fun c => F (c / 1000) (c % 1000)) 1000 = sumN (F 0) 1000 := sumN_eq (fun i hi => by rw [show i / 1000 = 0 by omega, show i % 1000 = i by omega])
  have e1 : sumN (fun i => F ((1000 + i) / 1000) ((1000 + i) % 1000)) 1000 = sumN (F 1) 1000 := sumN_eq (fun i hi => by rw [show (1000 + i) / 1000 = 1 by omega, show (1000 + i) % 1000 = i by omega])
  have e2 : sumN (fun i => F ((1000 + 1000 + i) / 1000) ((1000 + 1000 + i) % 1000)) 1000 = sumN (F 2) 1000 := sumN_eq (fun i hi => by rw [show (1000 + 1000 + i) / 1000 = 2 by omega, show (1000 + 1000 + i) % 1000 = i by omega])
  rw [e0, e1, e2]
theorem sumN_key {F : Nat → Nat} {k : Nat} (hk : k < 1000) (h : ∀ k', k' ≠ k → F k' = 0) : sumN F 1000 = F k := sumN_one hk (fun j _ hj => h j hj)
theorem ofSource_ok (S : MdS h) (R : RM (HI h 242) A D) {s : Nat} (hs : s < 3) : CL 259 [.ref 241, .int (nI (97 + s))] h = some (.ok (.int (nI (numA A s))), h) := by
  have m30 := R.m30
  have hsum : sumN (fun j => b2n (decide (ms (HI h 242) j = s))) (tot A) = numA A s := by
    rw [R.sum (F := fun s' k => b2n (decide (s' = s ∧ 0 < A s' k))) (fun j hj => by
      have hb := R.b hj
      simp only [hb.2.2.1, and_true]) (fun s' k _ _ q => by simp [q, b2n])]
    have z : ∀ s', s' ≠ s → sumN (fun k => b2n (decide (s' = s ∧ 0 < A s' k))) 1000 = 0 := fun s' q => sumN_0 (fun k _ => by simp [q, b2n])
    have o : sumN (fun k => b2n (decide (s = s ∧ 0 < A s k))) 1000 = numA A s := sumN_eq (fun k _ => by simp)
    have : s = 0 ∨ s = 1 ∨ s = 2 := by omega
    rcases this with rfl | rfl | rfl
    · rw [o, z 1 (by decide), z 2 (by decide)]; simp only [Nat.add_zero]
    · rw [o, z 0 (by decide), z 2 (by decide), Nat.zero_add, Nat.add_zero]
    · rw [o, z 0 (by decide), z 1 (by decide), Nat.zero_add]
  rw [← hsum, e259]
  simp only [lz0]
  refine (lpUp (F := fun i => RF 259 4 [.ref 241, .int (nI (97 + s)), .int (nI (sumN (fun j => b2n (decide (ms (HI h 242) j = s))) i)), .int (nI i)] [] h) (Nat.zero_le (tot A)) (fun j _ hj => ?_)).trans ?_
  · have hb := R.b hj
    have q1 := of_s S R hj
    have e : (97 + ms (HI h 242) j = 97 + s) = (ms (HI h 242) j = s) := propext (by omega)
    rw [e259_4]
    by_cases q : ms (HI h 242) j = s
    · simp (disch := omega) only [S.f, S.cw (show 1 < 169 by decide), R.m, hj, q1, q, sumN, decide_true, b2n, cond_true, cond_false, bI_ok, bI_er, bV_ok, bV_er, bR_ok, bR_er, bD_ok, bD_er, bF_ok, bF_er, thr_ap, cl_nI, lt_nI, le_nI, eq_nI, m1_lt, nI_m1, m1_nI, nI_lt_m1, add_nI, sub_nI, addm_nI, z_addm, z_subm, mul_nI, fit1_0, fit1_1, fit2_n, HI_wI, HK_wI, HL_wI, HR_wI, ckK_wI, chI_wI, sI_wI, wI_wI, lz0, lz1, lz2, lz3, lz4, lz5, lz6, lz7, lz8, lz9, lz10, lz12, lz13, lz16, lz17, lz20, lz21, lz23, lz26, lz30, lz32, lz35, lz40, lz45, lz48, lz57, lz58, lz59, lz60, lz61, lz63, lz64, lz97, lz99, lz100, lz110, lz111, lz126, lz129, lz132, lz133, lz166, lz169, lz255, lz999, lz1183, lz1800, Nat.reduceAdd, Nat.reduceLT, Nat.reduceEqDiff, Nat.not_lt_zero, Nat.lt_irrefl, ↓reduceIte, Nat.zero_add, Nat.add_zero, ne_eq, not_true_eq_false, not_false_eq_true, reduceCtorEq]
    · simp (disch := omega) only [S.f, S.cw (show 1 < 169 by decide), R.m, hj, q1, e, q, sumN, decide_false, b2n, Bool.false_eq_true, cond_true, cond_false, bI_ok, bI_er, bV_ok, bV_er, bR_ok, bR_er, bD_ok, bD_er, bF_ok, bF_er, thr_ap, cl_nI, lt_nI, le_nI, eq_nI, m1_lt, nI_m1, m1_nI, nI_lt_m1, add_nI, sub_nI, addm_nI, z_addm, z_subm, mul_nI, fit1_0, fit1_1, fit2_n, HI_wI, HK_wI, HL_wI, HR_wI, ckK_wI, chI_wI, sI_wI, wI_wI, lz0, lz1, lz2, lz3, lz4, lz5, lz6, lz7, lz8, lz9, lz10, lz12, lz13, lz16, lz17, lz20, lz21, lz23, lz26, lz30, lz32, lz35, lz40, lz45, lz48, lz57, lz58, lz59, lz60, lz61, lz63, lz64, lz97, lz99, lz100, lz110, lz111, lz126, lz129, lz132, lz133, lz166, lz169, lz255, lz999, lz1183, lz1800, Nat.reduceAdd, Nat.reduceLT, Nat.reduceEqDiff, Nat.not_lt_zero, Nat.lt_irrefl, ↓reduceIte, Nat.zero_add, Nat.add_zero, ne_eq, not_true_eq_false, not_false_eq_true, reduceCtorEq]
  · rw [e259_4]
    simp (disch := omega) only [S.f, S.cw (show 1 < 169 by decide), R.m, cond_true, cond_false, bI_ok, bI_er, bV_ok, bV_er, bR_ok, bR_er, bD_ok, bD_er, bF_ok, bF_er, thr_ap, cl_nI, lt_nI, le_nI, eq_nI, m1_lt, nI_m1, m1_nI, nI_lt_m1, add_nI, sub_nI, addm_nI, z_addm, z_subm, mul_nI, fit1_0, fit1_1, fit2_n, HI_wI, HK_wI, HL_wI, HR_wI, ckK_wI, chI_wI, sI_wI, wI_wI, lz0, lz1, lz2, lz3, lz4, lz5, lz6, lz7, lz8, lz9, lz10, lz12, lz13, lz16, lz17, lz20, lz21, lz23, lz26, lz30, lz32, lz35, lz40, lz45, lz48, lz57, lz58, lz59, lz60, lz61, lz63, lz64, lz97, lz99, lz100, lz110, lz111, lz126, lz129, lz132, lz133, lz166, lz169, lz255, lz999, lz1183, lz1800, Nat.reduceAdd, Nat.reduceLT, Nat.reduceEqDiff, Nat.not_lt_zero, Nat.lt_irrefl, ↓reduceIte, Nat.zero_add, Nat.add_zero, ne_eq, not_true_eq_false, not_false_eq_true, reduceCtorEq]
theorem withKey_ok (S : MdS h) (R : RM (HI h 242) A D) {k : Nat} (hk : k < 1000) : CL 233 [.ref 241, .int (nI k)] h = some (.ok (.int (nI (hoA A k))), h) := by
  have m30 := R.m30
  have hsum : sumN (fun j => b2n (decide (mk (HI h 242) j = k))) (tot A) = hoA A k := by
    rw [R.sum (F := fun s' k' => b2n (decide (k' = k ∧ 0 < A s' k'))) (fun j hj => by
      have hb := R.b hj
      simp only [hb.2.2.1, and_true]) (fun s' k _ _ q => by simp [q, b2n])]
    have z : ∀ s', sumN (fun k' => b2n (decide (k' = k ∧ 0 < A s' k'))) 1000 = b2n (decide (0 < A s' k)) := fun s' => (sumN_key hk (fun k' q => by simp [q, b2n])).trans (by simp)
    rw [z, z, z]
    rfl
  rw [← hsum, e233]
  simp only [lz0]
  refine (lpUp (F := fun i => RF 233 4 [.ref 241, .int (nI k), .int (nI (sumN (fun j => b2n (decide (mk (HI h 242) j = k))) i)), .int (nI i)] [] h) (Nat.zero_le (tot A)) (fun j _ hj => ?_)).trans ?_
  · have hb := R.b hj
    have q1 := of_k S R hj
    rw [e233_4]
    by_cases q : mk (HI h 242) j = k
    · simp (disch := omega) only [S.f, S.cw (show 1 < 169 by decide), R.m, hj, q1, q, sumN, decide_true, b2n, cond_true, cond_false, bI_ok, bI_er, bV_ok, bV_er, bR_ok, bR_er, bD_ok, bD_er, bF_ok, bF_er, thr_ap, cl_nI, lt_nI, le_nI, eq_nI, m1_lt, nI_m1, m1_nI, nI_lt_m1, add_nI, sub_nI, addm_nI, z_addm, z_subm, mul_nI, fit1_0, fit1_1, fit2_n, HI_wI, HK_wI, HL_wI, HR_wI, ckK_wI, chI_wI, sI_wI, wI_wI, lz0, lz1, lz2, lz3, lz4, lz5, lz6, lz7, lz8, lz9, lz10, lz12, lz13, lz16, lz17, lz20, lz21, lz23, lz26, lz30, lz32, lz35, lz40, lz45, lz48, lz57, lz58, lz59, lz60, lz61, lz63, lz64, lz97, lz99, lz100, lz110, lz111, lz126, lz129, lz132, lz133, lz166, lz169, lz255, lz999, lz1183, lz1800, Nat.reduceAdd, Nat.reduceLT, Nat.reduceEqDiff, Nat.not_lt_zero, Nat.lt_irrefl, ↓reduceIte, Nat.zero_add, Nat.add_zero, ne_eq, not_true_eq_false, not_false_eq_true, reduceCtorEq]
    · simp (disch := omega) only [S.f, S.cw (show 1 < 169 by decide), R.m, hj, q1, q, sumN, decide_false, b2n, Bool.false_eq_true, cond_true, cond_false, bI_ok, bI_er, bV_ok, bV_er, bR_ok, bR_er, bD_ok, bD_er, bF_ok, bF_er, thr_ap, cl_nI, lt_nI, le_nI, eq_nI, m1_lt, nI_m1, m1_nI, nI_lt_m1, add_nI, sub_nI, addm_nI, z_addm, z_subm, mul_nI, fit1_0, fit1_1, fit2_n, HI_wI, HK_wI, HL_wI, HR_wI, ckK_wI, chI_wI, sI_wI, wI_wI, lz0, lz1, lz2, lz3, lz4, lz5, lz6, lz7, lz8, lz9, lz10, lz12, lz13, lz16, lz17, lz20, lz21, lz23, lz26, lz30, lz32, lz35, lz40, lz45, lz48, lz57, lz58, lz59, lz60, lz61, lz63, lz64, lz97, lz99, lz100, lz110, lz111, lz126, lz129, lz132, lz133, lz166, lz169, lz255, lz999, lz1183, lz1800, Nat.reduceAdd, Nat.reduceLT, Nat.reduceEqDiff, Nat.not_lt_zero, Nat.lt_irrefl, ↓reduceIte, Nat.zero_add, Nat.add_zero, ne_eq, not_true_eq_false, not_false_eq_true, reduceCtorEq]
  · rw [e233_4]
    simp (disch := omega) only [S.f, S.cw (show 1 < 169 by decide), R.m, cond_true, cond_false, bI_ok, bI_er, bV_ok, bV_er, bR_ok, bR_er, bD_ok, bD_er, bF_ok, bF_er, thr_ap, cl_nI, lt_nI, le_nI, eq_nI, m1_lt, nI_m1, m1_nI, nI_lt_m1, add_nI, sub_nI, addm_nI, z_addm, z_subm, mul_nI, fit1_0, fit1_1, fit2_n, HI_wI, HK_wI, HL_wI, HR_wI, ckK_wI, chI_wI, sI_wI, wI_wI, lz0, lz1, lz2, lz3, lz4, lz5, lz6, lz7, lz8, lz9, lz10, lz12, lz13, lz16, lz17, lz20, lz21, lz23, lz26, lz30, lz32, lz35, lz40, lz45, lz48, lz57, lz58, lz59, lz60, lz61, lz63, lz64, lz97, lz99, lz100, lz110, lz111, lz126, lz129, lz132, lz133, lz166, lz169, lz255, lz999, lz1183, lz1800, Nat.reduceAdd, Nat.reduceLT, Nat.reduceEqDiff, Nat.not_lt_zero, Nat.lt_irrefl, ↓reduceIte, Nat.zero_add, Nat.add_zero, ne_eq, not_true_eq_false, not_false_eq_true, reduceCtorEq]
/-- .. of a key that cannot be -/
theorem withKey_f (S : MdS h) (R : RM (HI h 242) A D) {x : Int32} (hx : inr 0 999 x = false) : CL 233 [.ref 241, .int x] h = some (.ok (.int (nI 0)), h) := by
  have m30 := R.m30
  rw [e233]
  simp only [lz0]
  refine (lpUp (F := fun i => RF 233 4 [.ref 241, .int x, .int (nI 0), .int (nI i)] [] h) (Nat.zero_le (tot A)) (fun j _ hj => ?_)).trans ?_
  · have hb := R.b hj
    have q1 := of_k S R hj
    have q : ¬(nI (mk (HI h 242) j) = x) := fun e => by
      rw [← e, inr_nI (by omega) (by omega) (by decide)] at hx
      cases hx
    rw [e233_4]
    simp (disch := omega) only [S.f, S.cw (show 1 < 169 by decide), R.m, hj, q1, q, cond_true, cond_false, bI_ok, bI_er, bV_ok, bV_er, bR_ok, bR_er, bD_ok, bD_er, bF_ok, bF_er, thr_ap, cl_nI, lt_nI, le_nI, eq_nI, m1_lt, nI_m1, m1_nI, nI_lt_m1, add_nI, sub_nI, addm_nI, z_addm, z_subm, mul_nI, fit1_0, fit1_1, fit2_n, HI_wI, HK_wI, HL_wI, HR_wI, ckK_wI, chI_wI, sI_wI, wI_wI, lz0, lz1, lz2, lz3, lz4, lz5, lz6, lz7, lz8, lz9, lz10, lz12, lz13, lz16, lz17, lz20, lz21, lz23, lz26, lz30, lz32, lz35, lz40, lz45, lz48, lz57, lz58, lz59, lz60, lz61, lz63, lz64, lz97, lz99, lz100, lz110, lz111, lz126, lz129, lz132, lz133, lz166, lz169, lz255, lz999, lz1183, lz1800, Nat.reduceAdd, Nat.reduceLT, Nat.reduceEqDiff, Nat.not_lt_zero, Nat.lt_irrefl, ↓reduceIte, Nat.zero_add, Nat.add_zero, ne_eq, not_true_eq_false, not_false_eq_true, reduceCtorEq]
  · rw [e233_4]
    simp (disch := omega) only [S.f, S.cw (show 1 < 169 by decide), R.m, cond_true, cond_false, bI_ok, bI_er, bV_ok, bV_er, bR_ok, bR_er, bD_ok, bD_er, bF_ok, bF_er, thr_ap, cl_nI, lt_nI, le_nI, eq_nI, m1_lt, nI_m1, m1_nI, nI_lt_m1, add_nI, sub_nI, addm_nI, z_addm, z_subm, mul_nI, fit1_0, fit1_1, fit2_n, HI_wI, HK_wI, HL_wI, HR_wI, ckK_wI, chI_wI, sI_wI, wI_wI, lz0, lz1, lz2, lz3, lz4, lz5, lz6, lz7, lz8, lz9, lz10, lz12, lz13, lz16, lz17, lz20, lz21, lz23, lz26, lz30, lz32, lz35, lz40, lz45, lz48, lz57, lz58, lz59, lz60, lz61, lz63, lz64, lz97, lz99, lz100, lz110, lz111, lz126, lz129, lz132, lz133, lz166, lz169, lz255, lz999, lz1183, lz1800, Nat.reduceAdd, Nat.reduceLT, Nat.reduceEqDiff, Nat.not_lt_zero, Nat.lt_irrefl, ↓reduceIte, Nat.zero_add, Nat.add_zero, ne_eq, not_true_eq_false, not_false_eq_true, reduceCtorEq]
theorem withAmount_ok (S : MdS h) (R : RM (HI h 242) A D) {k a : Nat} (hk : k < 1000) (ha : 0 < a) (ha2 : a < 100) : CL 234 [.ref 241, .int (nI k), .int (nI a)] h = some (.ok (.int (nI (vt3 a (A 0 k) (A 1 k) (A 2 k)))), h) := by
  have m30 := R.m30
  have hsum : sumN (fun j => b2n (decide (mk (HI h 242) j = k ∧ A (ms (HI h 242) j) (mk (HI h 242) j) = a))) (tot A) = vt3 a (A 0 k) (A 1 k) (A 2 k) := by
    rw [R.sum (F := fun s' k' => b2n (decide (k' = k ∧ A s' k' = a))) (fun j hj => rfl) (fun s' k' _ _ q => by simp [q, b2n]; omega)]
    have z : ∀ s', sumN (fun k' => b2n (decide (k' = k ∧ A s' k' = a))) 1000 = b2n (decide (A s' k = a)) := fun s' => (sumN_key hk (fun k' q => by simp [q, b2n])).trans (by simp)
    rw [z, z, z]
    rfl
  rw [← hsum, e234]
  simp only [lz0]
  refine (lpUp (F := fun i => RF 234 5 [.ref 241, .int (nI k), .int (nI a), .int (nI (sumN (fun j => b2n (decide (mk (HI h 242) j = k ∧ A (ms (HI h 242) j) (mk (HI h 242) j) = a))) i)), .int (nI i)] [] h) (Nat.zero_le (tot A)) (fun j _ hj => ?_)).trans ?_
  · have hb := R.b hj
    have q1 := of_k S R hj
    have q2 := of_a S R hj
    rw [e234_5]
    by_cases q : mk (HI h 242) j = k
    · rw [q] at q2 hb
      by_cases q3 : A (ms (HI h 242) j) k = a
      · rw [q3] at q2
        simp (disch := omega) only [S.f, S.cw (show 1 < 169 by decide), R.m, hj, q1, q2, q, sumN, q3, and_self, decide_true, b2t, cond_true, cond_false, bI_ok, bI_er, bV_ok, bV_er, bR_ok, bR_er, bD_ok, bD_er, bF_ok, bF_er, thr_ap, cl_nI, lt_nI, le_nI, eq_nI, m1_lt, nI_m1, m1_nI, nI_lt_m1, add_nI, sub_nI, addm_nI, z_addm, z_subm, mul_nI, fit1_0, fit1_1, fit2_n, HI_wI, HK_wI, HL_wI, HR_wI, ckK_wI, chI_wI, sI_wI, wI_wI, lz0, lz1, lz2, lz3, lz4, lz5, lz6, lz7, lz8, lz9, lz10, lz12, lz13, lz16, lz17, lz20, lz21, lz23, lz26, lz30, lz32, lz35, lz40, lz45, lz48, lz57, lz58, lz59, lz60, lz61, lz63, lz64, lz97, lz99, lz100, lz110, lz111, lz126, lz129, lz132, lz133, lz166, lz169, lz255, lz999, lz1183, lz1800, Nat.reduceAdd, Nat.reduceLT, Nat.reduceEqDiff, Nat.not_lt_zero, Nat.lt_irrefl, ↓reduceIte, Nat.zero_add, Nat.add_zero, ne_eq, not_true_eq_false, not_false_eq_true, reduceCtorEq]
      · simp (disch := omega) only [S.f, S.cw (show 1 < 169 by decide), R.m, hj, q1, q2, q, sumN, q3, and_false, decide_false, b2f, Bool.false_eq_true, cond_true, cond_false, bI_ok, bI_er, bV_ok, bV_er, bR_ok, bR_er, bD_ok, bD_er, bF_ok, bF_er, thr_ap, cl_nI, lt_nI, le_nI, eq_nI, m1_lt, nI_m1, m1_nI, nI_lt_m1, add_nI, sub_nI, addm_nI, z_addm, z_subm, mul_nI, fit1_0, fit1_1, fit2_n, HI_wI, HK_wI, HL_wI, HR_wI, ckK_wI, chI_wI, sI_wI, wI_wI, lz0, lz1, lz2, lz3, lz4, lz5, lz6, lz7, lz8, lz9, lz10, lz12, lz13, lz16, lz17, lz20, lz21, lz23, lz26, lz30, lz32, lz35, lz40, lz45, lz48, lz57, lz58, lz59, lz60, lz61, lz63, lz64, lz97, lz99, lz100, lz110, lz111, lz126, lz129, lz132, lz133, lz166, lz169, lz255, lz999, lz1183, lz1800, Nat.reduceAdd, Nat.reduceLT, Nat.reduceEqDiff, Nat.not_lt_zero, Nat.lt_irrefl, ↓reduceIte, Nat.zero_add, Nat.add_zero, ne_eq, not_true_eq_false, not_false_eq_true, reduceCtorEq]
    · simp (disch := omega) only [S.f, S.cw (show 1 < 169 by decide), R.m, hj, q1, q, false_and, sumN, decide_false, b2n, Bool.false_eq_true, cond_true, cond_false, bI_ok, bI_er, bV_ok, bV_er, bR_ok, bR_er, bD_ok, bD_er, bF_ok, bF_er, thr_ap, cl_nI, lt_nI, le_nI, eq_nI, m1_lt, nI_m1, m1_nI, nI_lt_m1, add_nI, sub_nI, addm_nI, z_addm, z_subm, mul_nI, fit1_0, fit1_1, fit2_n, HI_wI, HK_wI, HL_wI, HR_wI, ckK_wI, chI_wI, sI_wI, wI_wI, lz0, lz1, lz2, lz3, lz4, lz5, lz6, lz7, lz8, lz9, lz10, lz12, lz13, lz16, lz17, lz20, lz21, lz23, lz26, lz30, lz32, lz35, lz40, lz45, lz48, lz57, lz58, lz59, lz60, lz61, lz63, lz64, lz97, lz99, lz100, lz110, lz111, lz126, lz129, lz132, lz133, lz166, lz169, lz255, lz999, lz1183, lz1800, Nat.reduceAdd, Nat.reduceLT, Nat.reduceEqDiff, Nat.not_lt_zero, Nat.lt_irrefl, ↓reduceIte, Nat.zero_add, Nat.add_zero, ne_eq, not_true_eq_false, not_false_eq_true, reduceCtorEq]
  · rw [e234_5]
    simp (disch := omega) only [S.f, S.cw (show 1 < 169 by decide), R.m, cond_true, cond_false, bI_ok, bI_er, bV_ok, bV_er, bR_ok, bR_er, bD_ok, bD_er, bF_ok, bF_er, thr_ap, cl_nI, lt_nI, le_nI, eq_nI, m1_lt, nI_m1, m1_nI, nI_lt_m1, add_nI, sub_nI, addm_nI, z_addm, z_subm, mul_nI, fit1_0, fit1_1, fit2_n, HI_wI, HK_wI, HL_wI, HR_wI, ckK_wI, chI_wI, sI_wI, wI_wI, lz0, lz1, lz2, lz3, lz4, lz5, lz6, lz7, lz8, lz9, lz10, lz12, lz13, lz16, lz17, lz20, lz21, lz23, lz26, lz30, lz32, lz35, lz40, lz45, lz48, lz57, lz58, lz59, lz60, lz61, lz63, lz64, lz97, lz99, lz100, lz110, lz111, lz126, lz129, lz132, lz133, lz166, lz169, lz255, lz999, lz1183, lz1800, Nat.reduceAdd, Nat.reduceLT, Nat.reduceEqDiff, Nat.not_lt_zero, Nat.lt_irrefl, ↓reduceIte, Nat.zero_add, Nat.add_zero, ne_eq, not_true_eq_false, not_false_eq_true, reduceCtorEq]
end MQ
