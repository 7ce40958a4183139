/-! THE LAW: what it sees of the class is a function of the book -/
section LAW9
variable {N : Nat} {xs : Nat → Int32} {b : Bk}
theorem num_le (A : AF) (s : Nat) : numA A s ≤ 1000 := by
  have := sumN_bd (f := fun k => b2n (decide (0 < A s k))) (n := 1000) (b := 1) (fun i _ => b2n_le _)
  unfold numA
  omega
theorem lk_130 {s : Nat} (hs : s < 3) (nx : ∀ (a : Int32) (v3 v4 : Value), ∃ v, ∀ y h, LK N xs h b y → RF 241 111 [.ref 31, .int a, .int (nI (97 + (s + 1))), v3, v4] [] h = some (.ok (.int v), h)) : ∀ (d p : Nat) (a : Int32) (v4 : Value), p + d = numA (kA b) s → ∃ v, ∀ y h, LK N xs h b y → RF 241 130 [.ref 31, .int a, .int (nI (97 + s)), .int (nI p), v4] [] h = some (.ok (.int v), h) := by
  have hm := num_le (kA b) s
  intro d
  induction d with
  | zero =>
    intro p a v4 hp
    obtain ⟨v, hv⟩ := nx a (.int (nI p)) v4
    refine ⟨v, fun y h K => ?_⟩
    rw [e241_130, K.k8, recordsOf_ok K.q K.rk hs]
    simp (disch := omega) only [show ¬ (p < numA (kA b) s) by omega, i2c_nI, cond_true, cond_false, bI_ok, bI_er, bV_ok, bV_er, bR_ok, bR_er, bD_ok, bD_er, bF_ok, bF_er, thr_ap, cl_nI, lt_nI, le_nI, eq_nI, m1_lt, nI_m1, m1_nI, nI_lt_m1, add_nI, sub_nI, addm_nI, z_addm, z_subm, mul_nI, fit1_0, fit1_1, fit2_n, HI_wI, HK_wI, HL_wI, HR_wI, ckK_wI, chI_wI, sI_wI, wI_wI, lz0, lz1, lz2, lz3, lz4, lz5, lz6, lz7, lz8, lz9, lz10, lz12, lz13, lz16, lz17, lz20, lz21, lz23, lz26, lz30, lz32, lz35, lz40, lz45, lz48, lz57, lz58, lz59, lz60, lz61, lz63, lz64, lz97, lz99, lz100, lz110, lz111, lz126, lz129, lz132, lz133, lz166, lz169, lz255, lz999, lz1183, lz1800, Nat.reduceAdd, Nat.reduceLT, Nat.reduceEqDiff, Nat.not_lt_zero, Nat.lt_irrefl, ↓reduceIte, Nat.zero_add, Nat.add_zero, ne_eq, not_true_eq_false, not_false_eq_true, reduceCtorEq]
    exact hv y h K
  | succ d ih =>
    intro p a v4 hp
    obtain ⟨k, k1, k2, k3, k4⟩ := ka_at (A := kA b) (s := s) (r := p) (by omega)
    obtain ⟨v, hv⟩ := ih (p + 1) (((31 : Int32) * (((31 : Int32) * (((31 : Int32) * a) + nI k)) + nI (kA b s k))) + nI (kD b s k)) (.int (nI k)) (by omega)
    refine ⟨v, fun y h K => ?_⟩
    have c1 := keyAt_ok K.q K.rk hs (nI p)
    rw [k4] at c1
    rw [e241_130, K.k8, recordsOf_ok K.q K.rk hs]
    simp (disch := omega) only [show p < numA (kA b) s by omega, K.k8, c1, amountOf_ok K.q K.rk hs k1 k2, dayOf_ok K.q K.rk hs k1 k2, cond_true, cond_false, bI_ok, bI_er, bV_ok, bV_er, bR_ok, bR_er, bD_ok, bD_er, bF_ok, bF_er, thr_ap, cl_nI, lt_nI, le_nI, eq_nI, m1_lt, nI_m1, m1_nI, nI_lt_m1, add_nI, sub_nI, addm_nI, z_addm, z_subm, mul_nI, fit1_0, fit1_1, fit2_n, HI_wI, HK_wI, HL_wI, HR_wI, ckK_wI, chI_wI, sI_wI, wI_wI, lz0, lz1, lz2, lz3, lz4, lz5, lz6, lz7, lz8, lz9, lz10, lz12, lz13, lz16, lz17, lz20, lz21, lz23, lz26, lz30, lz32, lz35, lz40, lz45, lz48, lz57, lz58, lz59, lz60, lz61, lz63, lz64, lz97, lz99, lz100, lz110, lz111, lz126, lz129, lz132, lz133, lz166, lz169, lz255, lz999, lz1183, lz1800, Nat.reduceAdd, Nat.reduceLT, Nat.reduceEqDiff, Nat.not_lt_zero, Nat.lt_irrefl, ↓reduceIte, Nat.zero_add, Nat.add_zero, ne_eq, not_true_eq_false, not_false_eq_true, reduceCtorEq]
    exact hv y h K
theorem lk_111 : ∀ (d s : Nat) (a : Int32) (v3 v4 : Value), s + d = 3 → ∃ v, ∀ y h, LK N xs h b y → RF 241 111 [.ref 31, .int a, .int (nI (97 + s)), v3, v4] [] h = some (.ok (.int v), h) := by
  intro d
  induction d with
  | zero =>
    intro s a v3 v4 hs
    refine ⟨((31 : Int32) * a) + nI (tot (kA b)), fun y h K => ?_⟩
    rw [e241_111, K.k8, recordCount_ok K.q K.rk]
    simp (disch := omega) only [show 99 < 97 + s by omega, cond_true, cond_false, bI_ok, bI_er, bV_ok, bV_er, bR_ok, bR_er, bD_ok, bD_er, bF_ok, bF_er, thr_ap, cl_nI, lt_nI, le_nI, eq_nI, m1_lt, nI_m1, m1_nI, nI_lt_m1, add_nI, sub_nI, addm_nI, z_addm, z_subm, mul_nI, fit1_0, fit1_1, fit2_n, HI_wI, HK_wI, HL_wI, HR_wI, ckK_wI, chI_wI, sI_wI, wI_wI, lz0, lz1, lz2, lz3, lz4, lz5, lz6, lz7, lz8, lz9, lz10, lz12, lz13, lz16, lz17, lz20, lz21, lz23, lz26, lz30, lz32, lz35, lz40, lz45, lz48, lz57, lz58, lz59, lz60, lz61, lz63, lz64, lz97, lz99, lz100, lz110, lz111, lz126, lz129, lz132, lz133, lz166, lz169, lz255, lz999, lz1183, lz1800, Nat.reduceAdd, Nat.reduceLT, Nat.reduceEqDiff, Nat.not_lt_zero, Nat.lt_irrefl, ↓reduceIte, Nat.zero_add, Nat.add_zero, ne_eq, not_true_eq_false, not_false_eq_true, reduceCtorEq]
  | succ d ih =>
    intro s a v3 v4 hs
    obtain ⟨v, hv⟩ := lk_130 (N := N) (xs := xs) (b := b) (s := s) (by omega) (fun a v3 v4 => ih (s + 1) a v3 v4 (by omega)) (numA (kA b) s) 0 (((31 : Int32) * a) + nI (kT b s)) v4 (Nat.zero_add _)
    refine ⟨v, fun y h K => ?_⟩
    rw [e241_111, K.k8, trustOf_ok K.q K.rk (show s < 3 by omega)]
    simp (disch := omega) only [show ¬ (99 < 97 + s) by omega, cond_true, cond_false, bI_ok, bI_er, bV_ok, bV_er, bR_ok, bR_er, bD_ok, bD_er, bF_ok, bF_er, thr_ap, cl_nI, lt_nI, le_nI, eq_nI, m1_lt, nI_m1, m1_nI, nI_lt_m1, add_nI, sub_nI, addm_nI, z_addm, z_subm, mul_nI, fit1_0, fit1_1, fit2_n, HI_wI, HK_wI, HL_wI, HR_wI, ckK_wI, chI_wI, sI_wI, wI_wI, lz0, lz1, lz2, lz3, lz4, lz5, lz6, lz7, lz8, lz9, lz10, lz12, lz13, lz16, lz17, lz20, lz21, lz23, lz26, lz30, lz32, lz35, lz40, lz45, lz48, lz57, lz58, lz59, lz60, lz61, lz63, lz64, lz97, lz99, lz100, lz110, lz111, lz126, lz129, lz132, lz133, lz166, lz169, lz255, lz999, lz1183, lz1800, Nat.reduceAdd, Nat.reduceLT, Nat.reduceEqDiff, Nat.not_lt_zero, Nat.lt_irrefl, ↓reduceIte, Nat.zero_add, Nat.add_zero, ne_eq, not_true_eq_false, not_false_eq_true, reduceCtorEq]
    exact hv y h K
theorem lk_65 : ∀ (d j : Nat) (a : Int32), j + d = kN b → kN b ≤ 12 → ∃ v, ∀ y h, LK N xs h b y → RF 241 65 [.ref 31, .int a, .int (nI j), .null, .null] [] h = some (.ok (.int v), h) := by
  intro d
  induction d with
  | zero =>
    intro j a hj n12
    obtain ⟨v, hv⟩ := lk_111 (N := N) (xs := xs) (b := b) 3 0 a .null .null rfl
    refine ⟨v, fun y h K => ?_⟩
    rw [e241_65, K.k8, reportCount_ok K.q K.rk]
    simp (disch := omega) only [show ¬ (j < kN b) by omega, cond_true, cond_false, bI_ok, bI_er, bV_ok, bV_er, bR_ok, bR_er, bD_ok, bD_er, bF_ok, bF_er, thr_ap, cl_nI, lt_nI, le_nI, eq_nI, m1_lt, nI_m1, m1_nI, nI_lt_m1, add_nI, sub_nI, addm_nI, z_addm, z_subm, mul_nI, fit1_0, fit1_1, fit2_n, HI_wI, HK_wI, HL_wI, HR_wI, ckK_wI, chI_wI, sI_wI, wI_wI, lz0, lz1, lz2, lz3, lz4, lz5, lz6, lz7, lz8, lz9, lz10, lz12, lz13, lz16, lz17, lz20, lz21, lz23, lz26, lz30, lz32, lz35, lz40, lz45, lz48, lz57, lz58, lz59, lz60, lz61, lz63, lz64, lz97, lz99, lz100, lz110, lz111, lz126, lz129, lz132, lz133, lz166, lz169, lz255, lz999, lz1183, lz1800, Nat.reduceAdd, Nat.reduceLT, Nat.reduceEqDiff, Nat.not_lt_zero, Nat.lt_irrefl, ↓reduceIte, Nat.zero_add, Nat.add_zero, ne_eq, not_true_eq_false, not_false_eq_true, reduceCtorEq]
    exact hv y h K
  | succ d ih =>
    intro j a hj n12
    obtain ⟨v, hv⟩ := ih (j + 1) (((31 : Int32) * (((31 : Int32) * (((31 : Int32) * a) + nI (97 + (kQ b j).1))) + nI (kQ b j).2.1)) + nI (kQ b j).2.2) (by omega) n12
    refine ⟨v, fun y h K => ?_⟩
    obtain ⟨c1, c2, c3, -⟩ := repC_t K.q K.rk (j := j) (by omega)
    rw [e241_65, K.k8, reportCount_ok K.q K.rk]
    simp (disch := omega) only [show j < kN b by omega, K.k8, c1, c2, c3, cond_true, cond_false, bI_ok, bI_er, bV_ok, bV_er, bR_ok, bR_er, bD_ok, bD_er, bF_ok, bF_er, thr_ap, cl_nI, lt_nI, le_nI, eq_nI, m1_lt, nI_m1, m1_nI, nI_lt_m1, add_nI, sub_nI, addm_nI, z_addm, z_subm, mul_nI, fit1_0, fit1_1, fit2_n, HI_wI, HK_wI, HL_wI, HR_wI, ckK_wI, chI_wI, sI_wI, wI_wI, lz0, lz1, lz2, lz3, lz4, lz5, lz6, lz7, lz8, lz9, lz10, lz12, lz13, lz16, lz17, lz20, lz21, lz23, lz26, lz30, lz32, lz35, lz40, lz45, lz48, lz57, lz58, lz59, lz60, lz61, lz63, lz64, lz97, lz99, lz100, lz110, lz111, lz126, lz129, lz132, lz133, lz166, lz169, lz255, lz999, lz1183, lz1800, Nat.reduceAdd, Nat.reduceLT, Nat.reduceEqDiff, Nat.not_lt_zero, Nat.lt_irrefl, ↓reduceIte, Nat.zero_add, Nat.add_zero, ne_eq, not_true_eq_false, not_false_eq_true, reduceCtorEq]
    exact hv y h K
/-- looks -/
theorem looks_ok (n12 : kN b ≤ 12) : ∃ v, ∀ y h, LK N xs h b y → CL 241 [.ref 31] h = some (.ok (.int v), h) := by
  obtain ⟨v, hv⟩ := lk_65 (N := N) (xs := xs) (b := b) (kN b) 0 (((31 : Int32) * (((31 : Int32) * (((31 : Int32) * (((31 : Int32) * (((31 : Int32) * (((31 : Int32) * (((31 : Int32) * nI (kY b)) + nI (kU b 0))) + nI (kU b 1))) + nI (kU b 2))) + nI (kU b 3))) + nI (kU b 4))) + nI (kU b 5))) + nI (kU b 6)) (Nat.zero_add _) n12
  refine ⟨v, fun y h K => ?_⟩
  obtain ⟨c1, c2, c3, c4, c5, c6, c7⟩ := totalsC_ok K.q K.rk
  rw [e241, K.k8, day_ok K.q K.rk]
  simp (disch := omega) only [K.k8, c1, c2, c3, c4, c5, c6, c7, cond_true, cond_false, bI_ok, bI_er, bV_ok, bV_er, bR_ok, bR_er, bD_ok, bD_er, bF_ok, bF_er, thr_ap, cl_nI, lt_nI, le_nI, eq_nI, m1_lt, nI_m1, m1_nI, nI_lt_m1, add_nI, sub_nI, addm_nI, z_addm, z_subm, mul_nI, fit1_0, fit1_1, fit2_n, HI_wI, HK_wI, HL_wI, HR_wI, ckK_wI, chI_wI, sI_wI, wI_wI, lz0, lz1, lz2, lz3, lz4, lz5, lz6, lz7, lz8, lz9, lz10, lz12, lz13, lz16, lz17, lz20, lz21, lz23, lz26, lz30, lz32, lz35, lz40, lz45, lz48, lz57, lz58, lz59, lz60, lz61, lz63, lz64, lz97, lz99, lz100, lz110, lz111, lz126, lz129, lz132, lz133, lz166, lz169, lz255, lz999, lz1183, lz1800, Nat.reduceAdd, Nat.reduceLT, Nat.reduceEqDiff, Nat.not_lt_zero, Nat.lt_irrefl, ↓reduceIte, Nat.zero_add, Nat.add_zero, ne_eq, not_true_eq_false, not_false_eq_true, reduceCtorEq]
  exact hv y h K
end LAW9
