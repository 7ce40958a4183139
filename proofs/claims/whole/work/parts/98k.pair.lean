/-! PAIRS -/
def abI (x : Int32) : Int32 := if 0 ≤ x then x else 0 - x
theorem absI (x : Int32) : (if 0 ≤ x then x else 0 - x) = abI x := rfl
theorem abI_nI {a b : Nat} (ha : a < 2147483648) (hb : b < 2147483648) : abI (nI a - nI b) = nI (ab a b) := abs_nI ha hb
def ppA (A : AF) (s k o k' : Nat) : Bool := decide (s ≠ o ∧ 0 < A s k ∧ 0 < A o k' ∧ A s k' = 0 ∧ A o k = 0 ∧ ab k k' ≤ 20 ∧ ab (A s k) (A o k') ≤ 5)
section PR
variable {h : Hp} {A D : AF}
theorem isPair_ok (S : MdS h) (R : RM (HI h 242) A D) {i j : Nat} (hi : i < tot A) (hj : j < tot A) : CL 283 [.ref 241, .int (nI i), .int (nI j)] h = some (.ok (.int (nI (b2n (ppA A (ms (HI h 242) i) (mk (HI h 242) i) (ms (HI h 242) j) (mk (HI h 242) j))))), h) := by
  have m30 := R.m30
  have bi := R.b hi
  have bj := R.b hj
  have si := of_s S R hi
  have sj := of_s S R hj
  have ki := of_k S R hi
  have kj := of_k S R hj
  have ai := of_a S R hi
  have aj := of_a S R hj
  generalize ms (HI h 242) i = s at *
  generalize ms (HI h 242) j = o at *
  generalize mk (HI h 242) i = k at *
  generalize mk (HI h 242) j = k' at *
  have hk := ab_lt bi.2.1 bj.2.1
  have ha := ab_lt bi.2.2.2.1 bj.2.2.2.1
  have z1 : ¬(nI 1 = nI 0) := by decide
  have f1 : ∃ w : Int32, CL 221 [.ref 241, .int (nI (97 + s)), .int (nI k')] h = some (.ok (.int w), h) ∧ (w = -nI 1) = (A s k' = 0) := by
    by_cases q : A s k' = 0
    · exact ⟨_, find_n S R bi.1 bj.2.1 q, by rw [eq_true q]; exact eq_true rfl⟩
    · obtain ⟨w, w1, _, _, w4⟩ := find_t S R bi.1 bj.2.1 (show 0 < A s k' by omega)
      exact ⟨_, w4, by rw [nI_m1 (by omega), eq_false q]⟩
  have f2 : ∃ w : Int32, CL 221 [.ref 241, .int (nI (97 + o)), .int (nI k)] h = some (.ok (.int w), h) ∧ (w = -nI 1) = (A o k = 0) := by
    by_cases q : A o k = 0
    · exact ⟨_, find_n S R bj.1 bi.2.1 q, by rw [eq_true q]; exact eq_true rfl⟩
    · obtain ⟨w, w1, _, _, w4⟩ := find_t S R bj.1 bi.2.1 (show 0 < A o k by omega)
      exact ⟨_, w4, by rw [nI_m1 (by omega), eq_false q]⟩
  obtain ⟨w1, f1, c1⟩ := f1
  obtain ⟨w2, f2, c2⟩ := f2
  have es : (97 + s = 97 + o) = (s = o) := propext (by omega)
  rw [e283]
  unfold ppA
  by_cases q1 : 20 < ab k k'
  · have hp : decide (s ≠ o ∧ 0 < A s k ∧ 0 < A o k' ∧ A s k' = 0 ∧ A o k = 0 ∧ ab k k' ≤ 20 ∧ ab (A s k) (A o k') ≤ 5) = false := decide_eq_false (by omega)
    rw [hp, b2f]
    by_cases q3 : A s k' = 0 <;> by_cases q4 : A o k = 0 <;> simp (disch := omega) only [S.f, si, sj, ki, kj, ai, aj, f1, f2, c1, c2, ↓absI, abI_nI, q1, q3, q4, Nat.succ_ne_self, cond_true, cond_false, bI_ok, bI_er, bV_ok, bV_er, bR_ok, bR_er, bD_ok, bD_er, bF_ok, bF_er, thr_ap, cl_nI, lt_nI, le_nI, eq_nI, m1_lt, nI_m1, m1_nI, nI_lt_m1, add_nI, sub_nI, addm_nI, z_addm, z_subm, mul_nI, fit1_0, fit1_1, fit2_n, HI_wI, HK_wI, HL_wI, HR_wI, ckK_wI, chI_wI, sI_wI, wI_wI, lz0, lz1, lz2, lz3, lz4, lz5, lz6, lz7, lz8, lz9, lz10, lz12, lz13, lz16, lz17, lz20, lz21, lz23, lz26, lz30, lz32, lz35, lz40, lz45, lz48, lz57, lz58, lz59, lz60, lz61, lz63, lz64, lz97, lz99, lz100, lz110, lz111, lz126, lz129, lz132, lz133, lz166, lz169, lz255, lz999, lz1183, lz1800, Nat.reduceAdd, Nat.reduceLT, Nat.reduceEqDiff, Nat.not_lt_zero, Nat.lt_irrefl, ↓reduceIte, Nat.zero_add, Nat.add_zero, ne_eq, not_true_eq_false, not_false_eq_true, reduceCtorEq]
  · by_cases q2 : 5 < ab (A s k) (A o k')
    · have hp : decide (s ≠ o ∧ 0 < A s k ∧ 0 < A o k' ∧ A s k' = 0 ∧ A o k = 0 ∧ ab k k' ≤ 20 ∧ ab (A s k) (A o k') ≤ 5) = false := decide_eq_false (by omega)
      rw [hp, b2f]
      by_cases q3 : A s k' = 0 <;> by_cases q4 : A o k = 0 <;> simp (disch := omega) only [S.f, si, sj, ki, kj, ai, aj, f1, f2, c1, c2, ↓absI, abI_nI, q1, q2, q3, q4, Nat.succ_ne_self, cond_true, cond_false, bI_ok, bI_er, bV_ok, bV_er, bR_ok, bR_er, bD_ok, bD_er, bF_ok, bF_er, thr_ap, cl_nI, lt_nI, le_nI, eq_nI, m1_lt, nI_m1, m1_nI, nI_lt_m1, add_nI, sub_nI, addm_nI, z_addm, z_subm, mul_nI, fit1_0, fit1_1, fit2_n, HI_wI, HK_wI, HL_wI, HR_wI, ckK_wI, chI_wI, sI_wI, wI_wI, lz0, lz1, lz2, lz3, lz4, lz5, lz6, lz7, lz8, lz9, lz10, lz12, lz13, lz16, lz17, lz20, lz21, lz23, lz26, lz30, lz32, lz35, lz40, lz45, lz48, lz57, lz58, lz59, lz60, lz61, lz63, lz64, lz97, lz99, lz100, lz110, lz111, lz126, lz129, lz132, lz133, lz166, lz169, lz255, lz999, lz1183, lz1800, Nat.reduceAdd, Nat.reduceLT, Nat.reduceEqDiff, Nat.not_lt_zero, Nat.lt_irrefl, ↓reduceIte, Nat.zero_add, Nat.add_zero, ne_eq, not_true_eq_false, not_false_eq_true, reduceCtorEq]
    · by_cases q3 : A s k' = 0
      · by_cases q4 : A o k = 0
        · by_cases q5 : s = o
          · subst q5
            omega
          · have hp : decide (s ≠ o ∧ 0 < A s k ∧ 0 < A o k' ∧ A s k' = 0 ∧ A o k = 0 ∧ ab k k' ≤ 20 ∧ ab (A s k) (A o k') ≤ 5) = true := decide_eq_true (by omega)
            rw [hp, b2t]
            simp (disch := omega) only [S.f, si, sj, ki, kj, ai, aj, f1, f2, c1, c2, ↓absI, abI_nI, q1, q2, q3, q4, es, q5, Nat.succ_ne_self, cond_true, cond_false, bI_ok, bI_er, bV_ok, bV_er, bR_ok, bR_er, bD_ok, bD_er, bF_ok, bF_er, thr_ap, cl_nI, lt_nI, le_nI, eq_nI, m1_lt, nI_m1, m1_nI, nI_lt_m1, add_nI, sub_nI, addm_nI, z_addm, z_subm, mul_nI, fit1_0, fit1_1, fit2_n, HI_wI, HK_wI, HL_wI, HR_wI, ckK_wI, chI_wI, sI_wI, wI_wI, lz0, lz1, lz2, lz3, lz4, lz5, lz6, lz7, lz8, lz9, lz10, lz12, lz13, lz16, lz17, lz20, lz21, lz23, lz26, lz30, lz32, lz35, lz40, lz45, lz48, lz57, lz58, lz59, lz60, lz61, lz63, lz64, lz97, lz99, lz100, lz110, lz111, lz126, lz129, lz132, lz133, lz166, lz169, lz255, lz999, lz1183, lz1800, Nat.reduceAdd, Nat.reduceLT, Nat.reduceEqDiff, Nat.not_lt_zero, Nat.lt_irrefl, ↓reduceIte, Nat.zero_add, Nat.add_zero, ne_eq, not_true_eq_false, not_false_eq_true, reduceCtorEq]
        · have hp : decide (s ≠ o ∧ 0 < A s k ∧ 0 < A o k' ∧ A s k' = 0 ∧ A o k = 0 ∧ ab k k' ≤ 20 ∧ ab (A s k) (A o k') ≤ 5) = false := decide_eq_false (by omega)
          rw [hp, b2f]
          simp (disch := omega) only [S.f, si, sj, ki, kj, ai, aj, f1, f2, c1, c2, ↓absI, abI_nI, q1, q2, q3, q4, Nat.succ_ne_self, cond_true, cond_false, bI_ok, bI_er, bV_ok, bV_er, bR_ok, bR_er, bD_ok, bD_er, bF_ok, bF_er, thr_ap, cl_nI, lt_nI, le_nI, eq_nI, m1_lt, nI_m1, m1_nI, nI_lt_m1, add_nI, sub_nI, addm_nI, z_addm, z_subm, mul_nI, fit1_0, fit1_1, fit2_n, HI_wI, HK_wI, HL_wI, HR_wI, ckK_wI, chI_wI, sI_wI, wI_wI, lz0, lz1, lz2, lz3, lz4, lz5, lz6, lz7, lz8, lz9, lz10, lz12, lz13, lz16, lz17, lz20, lz21, lz23, lz26, lz30, lz32, lz35, lz40, lz45, lz48, lz57, lz58, lz59, lz60, lz61, lz63, lz64, lz97, lz99, lz100, lz110, lz111, lz126, lz129, lz132, lz133, lz166, lz169, lz255, lz999, lz1183, lz1800, Nat.reduceAdd, Nat.reduceLT, Nat.reduceEqDiff, Nat.not_lt_zero, Nat.lt_irrefl, ↓reduceIte, Nat.zero_add, Nat.add_zero, ne_eq, not_true_eq_false, not_false_eq_true, reduceCtorEq]
      · have hp : decide (s ≠ o ∧ 0 < A s k ∧ 0 < A o k' ∧ A s k' = 0 ∧ A o k = 0 ∧ ab k k' ≤ 20 ∧ ab (A s k) (A o k') ≤ 5) = false := decide_eq_false (by omega)
        rw [hp, b2f]
        simp (disch := omega) only [S.f, si, sj, ki, kj, ai, aj, f1, f2, c1, c2, ↓absI, abI_nI, q1, q2, q3, Nat.succ_ne_self, cond_true, cond_false, bI_ok, bI_er, bV_ok, bV_er, bR_ok, bR_er, bD_ok, bD_er, bF_ok, bF_er, thr_ap, cl_nI, lt_nI, le_nI, eq_nI, m1_lt, nI_m1, m1_nI, nI_lt_m1, add_nI, sub_nI, addm_nI, z_addm, z_subm, mul_nI, fit1_0, fit1_1, fit2_n, HI_wI, HK_wI, HL_wI, HR_wI, ckK_wI, chI_wI, sI_wI, wI_wI, lz0, lz1, lz2, lz3, lz4, lz5, lz6, lz7, lz8, lz9, lz10, lz12, lz13, lz16, lz17, lz20, lz21, lz23, lz26, lz30, lz32, lz35, lz40, lz45, lz48, lz57, lz58, lz59, lz60, lz61, lz63, lz64, lz97, lz99, lz100, lz110, lz111, lz126, lz129, lz132, lz133, lz166, lz169, lz255, lz999, lz1183, lz1800, Nat.reduceAdd, Nat.reduceLT, Nat.reduceEqDiff, Nat.not_lt_zero, Nat.lt_irrefl, ↓reduceIte, Nat.zero_add, Nat.add_zero, ne_eq, not_true_eq_false, not_false_eq_true, reduceCtorEq]
theorem ps_pp {f : Nat → Nat → Int32} {t : Nat} (R : RT f t A D) {s o r q : Nat} (hs : s < 3) (ho : o < 3) (hso : s ≠ o) (hr : r < tn f t) (hq : q < tn f t) : ps f t s r o q = ppA A s (tk f t r) o (tk f t q) := by
  unfold ps ppA
  rw [R.a hs hr, R.a ho hq, R.a hs hq, R.a ho hr, decide_eq_decide]
  exact ⟨fun z => ⟨hso, z⟩, fun z => z.2⟩
/-- linked keys -/
def lkA (A : AF) (k k' : Nat) : Bool := ppA A 0 k 1 k' || ppA A 0 k 2 k' || ppA A 1 k 0 k' || ppA A 1 k 2 k' || ppA A 2 k 0 k' || ppA A 2 k 1 k'
theorem lk_A {f : Nat → Nat → Int32} {t : Nat} (R : RT f t A D) {r q : Nat} (hr : r < tn f t) (hq : q < tn f t) : lk f t r q = lkA A (tk f t r) (tk f t q) := by
  unfold lk lkA
  rw [ps_pp R (by decide) (by decide) (by decide) hr hq, ps_pp R (by decide) (by decide) (by decide) hr hq, ps_pp R (by decide) (by decide) (by decide) hr hq, ps_pp R (by decide) (by decide) (by decide) hr hq, ps_pp R (by decide) (by decide) (by decide) hr hq, ps_pp R (by decide) (by decide) (by decide) hr hq]
theorem isLinked_ok (S : MdS h) (R : RM (HI h 242) A D) {i j : Nat} (hi : i < tot A) (hj : j < tot A) : CL 296 [.ref 241, .int (nI i), .int (nI j)] h = some (.ok (.int (nI (b2n (decide (mk (HI h 242) i = mk (HI h 242) j) || ppA A (ms (HI h 242) i) (mk (HI h 242) i) (ms (HI h 242) j) (mk (HI h 242) j))))), h) := by
  have m30 := R.m30
  have bi := R.b hi
  have bj := R.b hj
  have ki := of_k S R hi
  have kj := of_k S R hj
  have hp := isPair_ok S R hi hj
  rw [e296]
  by_cases q : mk (HI h 242) i = mk (HI h 242) j
  · rw [decide_eq_true q, Bool.true_or, b2t]
    simp (disch := omega) only [S.f, ki, kj, q, cond_true, cond_false, bI_ok, bI_er, bV_ok, bV_er, bR_ok, bR_er, bD_ok, bD_er, bF_ok, bF_er, thr_ap, cl_nI, lt_nI, le_nI, eq_nI, m1_lt, nI_m1, m1_nI, nI_lt_m1, add_nI, sub_nI, addm_nI, z_addm, z_subm, mul_nI, fit1_0, fit1_1, fit2_n, HI_wI, HK_wI, HL_wI, HR_wI, ckK_wI, chI_wI, sI_wI, wI_wI, lz0, lz1, lz2, lz3, lz4, lz5, lz6, lz7, lz8, lz9, lz10, lz12, lz13, lz16, lz17, lz20, lz21, lz23, lz26, lz30, lz32, lz35, lz40, lz45, lz48, lz57, lz58, lz59, lz60, lz61, lz63, lz64, lz97, lz99, lz100, lz110, lz111, lz126, lz129, lz132, lz133, lz166, lz169, lz255, lz999, lz1183, lz1800, Nat.reduceAdd, Nat.reduceLT, Nat.reduceEqDiff, Nat.not_lt_zero, Nat.lt_irrefl, ↓reduceIte, Nat.zero_add, Nat.add_zero, ne_eq, not_true_eq_false, not_false_eq_true, reduceCtorEq]
  · rw [decide_eq_false q, Bool.false_or]
    cases hq : ppA A (ms (HI h 242) i) (mk (HI h 242) i) (ms (HI h 242) j) (mk (HI h 242) j) with
    | true =>
      rw [hq, b2t] at hp
      simp (disch := omega) only [S.f, ki, kj, q, hp, b2t, Nat.succ_ne_self, cond_true, cond_false, bI_ok, bI_er, bV_ok, bV_er, bR_ok, bR_er, bD_ok, bD_er, bF_ok, bF_er, thr_ap, cl_nI, lt_nI, le_nI, eq_nI, m1_lt, nI_m1, m1_nI, nI_lt_m1, add_nI, sub_nI, addm_nI, z_addm, z_subm, mul_nI, fit1_0, fit1_1, fit2_n, HI_wI, HK_wI, HL_wI, HR_wI, ckK_wI, chI_wI, sI_wI, wI_wI, lz0, lz1, lz2, lz3, lz4, lz5, lz6, lz7, lz8, lz9, lz10, lz12, lz13, lz16, lz17, lz20, lz21, lz23, lz26, lz30, lz32, lz35, lz40, lz45, lz48, lz57, lz58, lz59, lz60, lz61, lz63, lz64, lz97, lz99, lz100, lz110, lz111, lz126, lz129, lz132, lz133, lz166, lz169, lz255, lz999, lz1183, lz1800, Nat.reduceAdd, Nat.reduceLT, Nat.reduceEqDiff, Nat.not_lt_zero, Nat.lt_irrefl, ↓reduceIte, Nat.zero_add, Nat.add_zero, ne_eq, not_true_eq_false, not_false_eq_true, reduceCtorEq]
    | false =>
      rw [hq, b2f] at hp
      simp (disch := omega) only [S.f, ki, kj, q, hp, b2f, Nat.succ_ne_self, cond_true, cond_false, bI_ok, bI_er, bV_ok, bV_er, bR_ok, bR_er, bD_ok, bD_er, bF_ok, bF_er, thr_ap, cl_nI, lt_nI, le_nI, eq_nI, m1_lt, nI_m1, m1_nI, nI_lt_m1, add_nI, sub_nI, addm_nI, z_addm, z_subm, mul_nI, fit1_0, fit1_1, fit2_n, HI_wI, HK_wI, HL_wI, HR_wI, ckK_wI, chI_wI, sI_wI, wI_wI, lz0, lz1, lz2, lz3, lz4, lz5, lz6, lz7, lz8, lz9, lz10, lz12, lz13, lz16, lz17, lz20, lz21, lz23, lz26, lz30, lz32, lz35, lz40, lz45, lz48, lz57, lz58, lz59, lz60, lz61, lz63, lz64, lz97, lz99, lz100, lz110, lz111, lz126, lz129, lz132, lz133, lz166, lz169, lz255, lz999, lz1183, lz1800, Nat.reduceAdd, Nat.reduceLT, Nat.reduceEqDiff, Nat.not_lt_zero, Nat.lt_irrefl, ↓reduceIte, Nat.zero_add, Nat.add_zero, ne_eq, not_true_eq_false, not_false_eq_true, reduceCtorEq]
end PR
