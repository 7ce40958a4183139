/-! POSSIBLE PAIRS, ONE AT A TIME -/
def two (x y : Int32) : Bool := inr 97 99 x && inr 97 99 y && decide (x ≠ y)
theorem two_t {x y : Int32} (h : two x y = true) : ∃ s o, s < 3 ∧ o < 3 ∧ s ≠ o ∧ x = nI (97 + s) ∧ y = nI (97 + o) := by
  unfold two at h
  rw [Bool.and_eq_true, Bool.and_eq_true] at h
  obtain ⟨⟨h1, h2⟩, h3⟩ := h
  have h3 := of_decide_eq_true h3
  obtain ⟨i, i1, i2, rfl⟩ := inr_t (by decide) (by decide) h1
  obtain ⟨j, j1, j2, rfl⟩ := inr_t (by decide) (by decide) h2
  refine ⟨i - 97, j - 97, by omega, by omega, fun q => h3 ?_, by rw [show 97 + (i - 97) = i by omega], by rw [show 97 + (j - 97) = j by omega]⟩
  congr 1
  omega
theorem two_nI {s o : Nat} (hs : s < 3) (ho : o < 3) (hso : s ≠ o) : two (nI (97 + s)) (nI (97 + o)) = true := by
  unfold two
  rw [hs_in hs, hs_in ho, decide_eq_true]
  · rfl
  · intro q
    rw [eq_nI (by omega) (by omega)] at q
    omega
section PP
variable {h : Hp} {A D : AF} {b : Bk} {B : Nat}
theorem rqO_t {s o : Nat} (hs : s < 3) (ho : o < 3) (hso : s ≠ o) : CL 124 [.int (nI (97 + s)), .int (nI (97 + o))] h = some (.ok (.int (nI o)), h) := by
  rw [e124]
  have : ¬(97 + s = 97 + o) := by omega
  simp (disch := omega) only [rqS_t ho, this, cond_true, cond_false, bI_ok, bI_er, bV_ok, bV_er, bR_ok, bR_er, bD_ok, bD_er, bF_ok, bF_er, thr_ap, cl_nI, lt_nI, le_nI, eq_nI, m1_lt, nI_m1, m1_nI, nI_lt_m1, add_nI, sub_nI, addm_nI, z_addm, z_subm, mul_nI, fit1_0, fit1_1, fit2_n, HI_wI, HK_wI, HL_wI, HR_wI, ckK_wI, chI_wI, sI_wI, wI_wI, lz0, lz1, lz2, lz3, lz4, lz5, lz6, lz7, lz8, lz9, lz10, lz12, lz13, lz16, lz17, lz20, lz21, lz23, lz26, lz30, lz32, lz35, lz40, lz45, lz48, lz57, lz58, lz59, lz60, lz61, lz63, lz64, lz97, lz99, lz100, lz110, lz111, lz126, lz129, lz132, lz133, lz166, lz169, lz255, lz999, lz1183, lz1800, Nat.reduceAdd, Nat.reduceLT, Nat.reduceEqDiff, Nat.not_lt_zero, Nat.lt_irrefl, ↓reduceIte, Nat.zero_add, Nat.add_zero, ne_eq, not_true_eq_false, not_false_eq_true, reduceCtorEq]
theorem rqO_f {x y : Int32} (hb : two x y = false) (hx : inr 97 99 x = true) : CL 124 [.int x, .int y] h = some (.error 1, hthr h) := by
  unfold two at hb
  rw [hx, Bool.true_and] at hb
  rw [e124]
  cases q : inr 97 99 y with
  | false => simp only [rqS_f q, cond_true, cond_false, bI_ok, bI_er, bV_ok, bV_er, bR_ok, bR_er, bD_ok, bD_er, bF_ok, bF_er, thr_ap, cl_nI, lt_nI, le_nI, eq_nI, m1_lt, nI_m1, m1_nI, nI_lt_m1, add_nI, sub_nI, addm_nI, z_addm, z_subm, mul_nI, fit1_0, fit1_1, fit2_n, HI_wI, HK_wI, HL_wI, HR_wI, ckK_wI, chI_wI, sI_wI, wI_wI, lz0, lz1, lz2, lz3, lz4, lz5, lz6, lz7, lz8, lz9, lz10, lz12, lz13, lz16, lz17, lz20, lz21, lz23, lz26, lz30, lz32, lz35, lz40, lz45, lz48, lz57, lz58, lz59, lz60, lz61, lz63, lz64, lz97, lz99, lz100, lz110, lz111, lz126, lz129, lz132, lz133, lz166, lz169, lz255, lz999, lz1183, lz1800, Nat.reduceAdd, Nat.reduceLT, Nat.reduceEqDiff, Nat.not_lt_zero, Nat.lt_irrefl, ↓reduceIte, Nat.zero_add, Nat.add_zero, ne_eq, not_true_eq_false, not_false_eq_true, reduceCtorEq]
  | true =>
    rw [q, Bool.true_and] at hb
    have h3 : x = y := by
      by_cases z : x = y
      · exact z
      · exact absurd z (of_decide_eq_false hb)
    obtain ⟨i, i1, i2, rfl⟩ := inr_t (by decide) (by decide) q
    have := rqS_t (h := h) (s := i - 97) (by omega)
    rw [show 97 + (i - 97) = i by omega] at this
    simp only [this, h3, cond_true, cond_false, bI_ok, bI_er, bV_ok, bV_er, bR_ok, bR_er, bD_ok, bD_er, bF_ok, bF_er, thr_ap, cl_nI, lt_nI, le_nI, eq_nI, m1_lt, nI_m1, m1_nI, nI_lt_m1, add_nI, sub_nI, addm_nI, z_addm, z_subm, mul_nI, fit1_0, fit1_1, fit2_n, HI_wI, HK_wI, HL_wI, HR_wI, ckK_wI, chI_wI, sI_wI, wI_wI, lz0, lz1, lz2, lz3, lz4, lz5, lz6, lz7, lz8, lz9, lz10, lz12, lz13, lz16, lz17, lz20, lz21, lz23, lz26, lz30, lz32, lz35, lz40, lz45, lz48, lz57, lz58, lz59, lz60, lz61, lz63, lz64, lz97, lz99, lz100, lz110, lz111, lz126, lz129, lz132, lz133, lz166, lz169, lz255, lz999, lz1183, lz1800, Nat.reduceAdd, Nat.reduceLT, Nat.reduceEqDiff, Nat.not_lt_zero, Nat.lt_irrefl, ↓reduceIte, Nat.zero_add, Nat.add_zero, ne_eq, not_true_eq_false, not_false_eq_true, reduceCtorEq]
theorem ppC_f (S : QS h B) (R : RK (HI h) B b) (x k y k' : Int32) (hbad : (two x y && inr 0 999 k && inr 0 999 k') = false) : CL 127 [.ref 31, .int x, .int k, .int y, .int k'] h = some (.error 1, hthr h) := by
  rw [e127]
  cases q0 : inr 97 99 x with
  | false => simp only [rqS_f q0, cond_true, cond_false, bI_ok, bI_er, bV_ok, bV_er, bR_ok, bR_er, bD_ok, bD_er, bF_ok, bF_er, thr_ap, cl_nI, lt_nI, le_nI, eq_nI, m1_lt, nI_m1, m1_nI, nI_lt_m1, add_nI, sub_nI, addm_nI, z_addm, z_subm, mul_nI, fit1_0, fit1_1, fit2_n, HI_wI, HK_wI, HL_wI, HR_wI, ckK_wI, chI_wI, sI_wI, wI_wI, lz0, lz1, lz2, lz3, lz4, lz5, lz6, lz7, lz8, lz9, lz10, lz12, lz13, lz16, lz17, lz20, lz21, lz23, lz26, lz30, lz32, lz35, lz40, lz45, lz48, lz57, lz58, lz59, lz60, lz61, lz63, lz64, lz97, lz99, lz100, lz110, lz111, lz126, lz129, lz132, lz133, lz166, lz169, lz255, lz999, lz1183, lz1800, Nat.reduceAdd, Nat.reduceLT, Nat.reduceEqDiff, Nat.not_lt_zero, Nat.lt_irrefl, ↓reduceIte, Nat.zero_add, Nat.add_zero, ne_eq, not_true_eq_false, not_false_eq_true, reduceCtorEq]
  | true =>
    obtain ⟨i, i1, i2, rfl⟩ := inr_t (by decide) (by decide) q0
    have h1 := rqS_t (h := h) (s := i - 97) (by omega)
    rw [show 97 + (i - 97) = i by omega] at h1
    cases q1 : two (nI i) y with
    | false => simp only [h1, rqO_f q1 q0, cond_true, cond_false, bI_ok, bI_er, bV_ok, bV_er, bR_ok, bR_er, bD_ok, bD_er, bF_ok, bF_er, thr_ap, cl_nI, lt_nI, le_nI, eq_nI, m1_lt, nI_m1, m1_nI, nI_lt_m1, add_nI, sub_nI, addm_nI, z_addm, z_subm, mul_nI, fit1_0, fit1_1, fit2_n, HI_wI, HK_wI, HL_wI, HR_wI, ckK_wI, chI_wI, sI_wI, wI_wI, lz0, lz1, lz2, lz3, lz4, lz5, lz6, lz7, lz8, lz9, lz10, lz12, lz13, lz16, lz17, lz20, lz21, lz23, lz26, lz30, lz32, lz35, lz40, lz45, lz48, lz57, lz58, lz59, lz60, lz61, lz63, lz64, lz97, lz99, lz100, lz110, lz111, lz126, lz129, lz132, lz133, lz166, lz169, lz255, lz999, lz1183, lz1800, Nat.reduceAdd, Nat.reduceLT, Nat.reduceEqDiff, Nat.not_lt_zero, Nat.lt_irrefl, ↓reduceIte, Nat.zero_add, Nat.add_zero, ne_eq, not_true_eq_false, not_false_eq_true, reduceCtorEq]
    | true =>
      rw [q1, Bool.true_and] at hbad
      obtain ⟨s, o, hs, ho, hso, e1, rfl⟩ := two_t q1
      have h2 : CL 124 [.int (nI i), .int (nI (97 + o))] h = some (.ok (.int (nI o)), h) := by
        rw [e1]
        exact rqO_t hs ho hso
      cases q2 : inr 0 999 k with
      | false => simp only [h1, h2, rqK_f q2, cond_true, cond_false, bI_ok, bI_er, bV_ok, bV_er, bR_ok, bR_er, bD_ok, bD_er, bF_ok, bF_er, thr_ap, cl_nI, lt_nI, le_nI, eq_nI, m1_lt, nI_m1, m1_nI, nI_lt_m1, add_nI, sub_nI, addm_nI, z_addm, z_subm, mul_nI, fit1_0, fit1_1, fit2_n, HI_wI, HK_wI, HL_wI, HR_wI, ckK_wI, chI_wI, sI_wI, wI_wI, lz0, lz1, lz2, lz3, lz4, lz5, lz6, lz7, lz8, lz9, lz10, lz12, lz13, lz16, lz17, lz20, lz21, lz23, lz26, lz30, lz32, lz35, lz40, lz45, lz48, lz57, lz58, lz59, lz60, lz61, lz63, lz64, lz97, lz99, lz100, lz110, lz111, lz126, lz129, lz132, lz133, lz166, lz169, lz255, lz999, lz1183, lz1800, Nat.reduceAdd, Nat.reduceLT, Nat.reduceEqDiff, Nat.not_lt_zero, Nat.lt_irrefl, ↓reduceIte, Nat.zero_add, Nat.add_zero, ne_eq, not_true_eq_false, not_false_eq_true, reduceCtorEq]
      | true =>
        obtain ⟨kk, k1, k2, rfl⟩ := inr_t (by decide) (by decide) q2
        rw [q2, Bool.true_and] at hbad
        simp only [h1, h2, rqK_t (show kk < 1000 by omega), rqK_f hbad, cond_true, cond_false, bI_ok, bI_er, bV_ok, bV_er, bR_ok, bR_er, bD_ok, bD_er, bF_ok, bF_er, thr_ap, cl_nI, lt_nI, le_nI, eq_nI, m1_lt, nI_m1, m1_nI, nI_lt_m1, add_nI, sub_nI, addm_nI, z_addm, z_subm, mul_nI, fit1_0, fit1_1, fit2_n, HI_wI, HK_wI, HL_wI, HR_wI, ckK_wI, chI_wI, sI_wI, wI_wI, lz0, lz1, lz2, lz3, lz4, lz5, lz6, lz7, lz8, lz9, lz10, lz12, lz13, lz16, lz17, lz20, lz21, lz23, lz26, lz30, lz32, lz35, lz40, lz45, lz48, lz57, lz58, lz59, lz60, lz61, lz63, lz64, lz97, lz99, lz100, lz110, lz111, lz126, lz129, lz132, lz133, lz166, lz169, lz255, lz999, lz1183, lz1800, Nat.reduceAdd, Nat.reduceLT, Nat.reduceEqDiff, Nat.not_lt_zero, Nat.lt_irrefl, ↓reduceIte, Nat.zero_add, Nat.add_zero, ne_eq, not_true_eq_false, not_false_eq_true, reduceCtorEq]
theorem ppC_n (S : QS h B) (R : RK (HI h) B b) {s o k k' : Nat} (hs : s < 3) (ho : o < 3) (hso : s ≠ o) (hk : k < 1000) (hk' : k' < 1000) (h0 : kA b s k = 0 ∨ kA b o k' = 0) : CL 127 [.ref 31, .int (nI (97 + s)), .int (nI k), .int (nI (97 + o)), .int (nI k')] h = some (.error 4, hthr h) := by
  rw [e127]
  by_cases q : kA b s k = 0
  · simp (disch := omega) only [S.f, rqS_t hs, rqO_t hs ho hso, rqK_t hk, rqK_t hk', rqRec_n S R hs hk q, cond_true, cond_false, bI_ok, bI_er, bV_ok, bV_er, bR_ok, bR_er, bD_ok, bD_er, bF_ok, bF_er, thr_ap, cl_nI, lt_nI, le_nI, eq_nI, m1_lt, nI_m1, m1_nI, nI_lt_m1, add_nI, sub_nI, addm_nI, z_addm, z_subm, mul_nI, fit1_0, fit1_1, fit2_n, HI_wI, HK_wI, HL_wI, HR_wI, ckK_wI, chI_wI, sI_wI, wI_wI, lz0, lz1, lz2, lz3, lz4, lz5, lz6, lz7, lz8, lz9, lz10, lz12, lz13, lz16, lz17, lz20, lz21, lz23, lz26, lz30, lz32, lz35, lz40, lz45, lz48, lz57, lz58, lz59, lz60, lz61, lz63, lz64, lz97, lz99, lz100, lz110, lz111, lz126, lz129, lz132, lz133, lz166, lz169, lz255, lz999, lz1183, lz1800, Nat.reduceAdd, Nat.reduceLT, Nat.reduceEqDiff, Nat.not_lt_zero, Nat.lt_irrefl, ↓reduceIte, Nat.zero_add, Nat.add_zero, ne_eq, not_true_eq_false, not_false_eq_true, reduceCtorEq]
  · obtain ⟨r, r1, r2, r3, r4⟩ := rqRec_t S R hs hk (show 0 < kA b s k by omega)
    simp (disch := omega) only [S.f, rqS_t hs, rqO_t hs ho hso, rqK_t hk, rqK_t hk', r4, rqRec_n S R ho hk' (show kA b o k' = 0 by omega), cond_true, cond_false, bI_ok, bI_er, bV_ok, bV_er, bR_ok, bR_er, bD_ok, bD_er, bF_ok, bF_er, thr_ap, cl_nI, lt_nI, le_nI, eq_nI, m1_lt, nI_m1, m1_nI, nI_lt_m1, add_nI, sub_nI, addm_nI, z_addm, z_subm, mul_nI, fit1_0, fit1_1, fit2_n, HI_wI, HK_wI, HL_wI, HR_wI, ckK_wI, chI_wI, sI_wI, wI_wI, lz0, lz1, lz2, lz3, lz4, lz5, lz6, lz7, lz8, lz9, lz10, lz12, lz13, lz16, lz17, lz20, lz21, lz23, lz26, lz30, lz32, lz35, lz40, lz45, lz48, lz57, lz58, lz59, lz60, lz61, lz63, lz64, lz97, lz99, lz100, lz110, lz111, lz126, lz129, lz132, lz133, lz166, lz169, lz255, lz999, lz1183, lz1800, Nat.reduceAdd, Nat.reduceLT, Nat.reduceEqDiff, Nat.not_lt_zero, Nat.lt_irrefl, ↓reduceIte, Nat.zero_add, Nat.add_zero, ne_eq, not_true_eq_false, not_false_eq_true, reduceCtorEq]
theorem ppC_t (S : QS h B) (R : RK (HI h) B b) {s o k k' : Nat} (hs : s < 3) (ho : o < 3) (hso : s ≠ o) (hk : k < 1000) (hk' : k' < 1000) (h1 : 0 < kA b s k) (h2 : 0 < kA b o k') : CL 127 [.ref 31, .int (nI (97 + s)), .int (nI k), .int (nI (97 + o)), .int (nI k')] h = some (.ok (.int (nI (b2n (ppA (kA b) s k o k')))), h) := by
  have n30 := R.t.n30
  obtain ⟨r, r1, r2, r3, r4⟩ := rqRec_t S R hs hk h1
  obtain ⟨q, q1, q2, q3, q4⟩ := rqRec_t S R ho hk' h2
  have hp := isPossible_ok S.t R.t.N (r := r) (q := q) hs (by omega) ho (by omega)
  rw [ps_pp R.t hs ho hso r1 q1, r2, q2] at hp
  rw [e127]
  simp (disch := omega) only [S.f, rqS_t hs, rqO_t hs ho hso, rqK_t hk, rqK_t hk', r4, q4, hp, cond_true, cond_false, bI_ok, bI_er, bV_ok, bV_er, bR_ok, bR_er, bD_ok, bD_er, bF_ok, bF_er, thr_ap, cl_nI, lt_nI, le_nI, eq_nI, m1_lt, nI_m1, m1_nI, nI_lt_m1, add_nI, sub_nI, addm_nI, z_addm, z_subm, mul_nI, fit1_0, fit1_1, fit2_n, HI_wI, HK_wI, HL_wI, HR_wI, ckK_wI, chI_wI, sI_wI, wI_wI, lz0, lz1, lz2, lz3, lz4, lz5, lz6, lz7, lz8, lz9, lz10, lz12, lz13, lz16, lz17, lz20, lz21, lz23, lz26, lz30, lz32, lz35, lz40, lz45, lz48, lz57, lz58, lz59, lz60, lz61, lz63, lz64, lz97, lz99, lz100, lz110, lz111, lz126, lz129, lz132, lz133, lz166, lz169, lz255, lz999, lz1183, lz1800, Nat.reduceAdd, Nat.reduceLT, Nat.reduceEqDiff, Nat.not_lt_zero, Nat.lt_irrefl, ↓reduceIte, Nat.zero_add, Nat.add_zero, ne_eq, not_true_eq_false, not_false_eq_true, reduceCtorEq]
  cases ppA (kA b) s k o k' <;> rfl
end PP
