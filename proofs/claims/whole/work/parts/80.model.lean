/-! THE REFERENCE: its row of numbers read -/
def gd (g : Nat → Int32) (k : Nat) : Nat := (g k).toNatClampNeg
def ms (g : Nat → Int32) (j : Nat) : Nat := gd g (13 + 4 * j) - 97
def mk (g : Nat → Int32) (j : Nat) : Nat := gd g (13 + 4 * j + 1)
def RM (g : Nat → Int32) (A D : AF) : Prop := g 1 = nI (tot A) ∧ tot A ≤ 30 ∧ (∀ j, j < tot A → g (13 + 4 * j) = nI (97 + ms g j) ∧ ms g j < 3 ∧ g (13 + 4 * j + 1) = nI (mk g j) ∧ mk g j < 1000 ∧ g (13 + 4 * j + 2) = nI (A (ms g j) (mk g j)) ∧ 0 < A (ms g j) (mk g j) ∧ A (ms g j) (mk g j) < 100 ∧ g (13 + 4 * j + 3) = nI (D (ms g j) (mk g j)) ∧ D (ms g j) (mk g j) < 1073741824) ∧ (∀ j j', j < j' → j' < tot A → ms g j * 1000 + mk g j < ms g j' * 1000 + mk g j') ∧ ∀ s k, s < 3 → k < 1000 → 0 < A s k → ∃ j, j < tot A ∧ ms g j = s ∧ mk g j = k
def RQ (g : Nat → Int32) (n : Nat) (Q : QF) : Prop := n ≤ 12 ∧ g 2 = nI n ∧ ∀ i, i < n → g (133 + 3 * i) = nI (97 + (Q i).1) ∧ g (133 + 3 * i + 1) = nI (Q i).2.1 ∧ g (133 + 3 * i + 2) = nI (Q i).2.2 ∧ (Q i).1 < 3 ∧ (Q i).2.1 < 1000 ∧ 0 < (Q i).2.2 ∧ (Q i).2.2 < 100
def RN (g : Nat → Int32) (b : Bk) : Prop := RM g (kA b) (kD b) ∧ RQ g (kN b) (kQ b) ∧ (∀ s, s < 3 → g (10 + s) = nI (kT b s) ∧ kT b s ≤ 9) ∧ (∀ i, i < 7 → g (3 + i) = nI (kU b i)) ∧ g 0 = nI (kY b)
def MdS (h : Hp) : Prop := HK h 241 = 9 ∧ (HR h 241 0 = 242 ∧ HR h 241 1 = 243 ∧ HR h 241 2 = 244 ∧ HR h 241 3 = 245 ∧ HR h 241 8 = 246 ∧ HR h 241 9 = 247 ∧ HR h 241 10 = 248 ∧ HR h 241 11 = 249 ∧ HR h 241 12 = 250 ∧ HR h 241 14 = 251 ∧ HR h 241 21 = 252) ∧ (HK h 242 = 100 ∧ HL h 242 = 169) ∧ (HK h 243 = 100 ∧ HL h 243 = 169) ∧ (HK h 244 = 100 ∧ HL h 244 = 169) ∧ (HK h 245 = 100 ∧ HL h 245 = 1352) ∧ (HK h 246 = 100 ∧ HL h 246 = 30) ∧ (HK h 247 = 100 ∧ HL h 247 = 30) ∧ (HK h 248 = 100 ∧ HL h 248 = 30) ∧ (HK h 249 = 100 ∧ HL h 249 = 30) ∧ (HK h 250 = 100 ∧ HL h 250 = 60) ∧ (HK h 251 = 100 ∧ HL h 251 = 160) ∧ (HK h 252 = 100 ∧ HL h 252 = 120)
theorem la_suc (p : Nat → Bool) (n : Nat) : la? p (n + 1) = if p n then some n else la? p n := rfl
theorem oI_some (n : Nat) : oI (some n) = nI n := rfl
section MD
variable {h : Hp} {A D : AF} {n : Nat} {Q : QF}
theorem MdS.wI (S : MdS h) (f : Nat → Nat → Int32) : MdS (wI h f) := S
theorem MdS.f (S : MdS h) : ckK h 241 9 = true ∧ HR h 241 0 = 242 ∧ HR h 241 1 = 243 ∧ HR h 241 2 = 244 ∧ HR h 241 3 = 245 ∧ HR h 241 8 = 246 ∧ HR h 241 9 = 247 ∧ HR h 241 10 = 248 ∧ HR h 241 11 = 249 ∧ HR h 241 12 = 250 ∧ HR h 241 14 = 251 ∧ HR h 241 21 = 252 := ⟨ck_of S.1, S.2.1⟩
theorem MdS.cw (S : MdS h) {i : Nat} (hi : i < 169) : chI h 242 100 (nI i) = true := chI_nI S.2.2.1.1 S.2.2.1.2 hi (by decide)
theorem RM.m {g : Nat → Int32} (R : RM g A D) : g 1 = nI (tot A) := R.1
theorem RM.m30 {g : Nat → Int32} (R : RM g A D) : tot A ≤ 30 := R.2.1
theorem RM.r {g : Nat → Int32} (R : RM g A D) {j : Nat} (hj : j < tot A) : g (13 + 4 * j) = nI (97 + ms g j) ∧ g (13 + 4 * j + 1) = nI (mk g j) ∧ g (13 + 4 * j + 2) = nI (A (ms g j) (mk g j)) ∧ g (13 + 4 * j + 3) = nI (D (ms g j) (mk g j)) := ⟨(R.2.2.1 j hj).1, (R.2.2.1 j hj).2.2.1, (R.2.2.1 j hj).2.2.2.2.1, (R.2.2.1 j hj).2.2.2.2.2.2.2.1⟩
theorem RM.b {g : Nat → Int32} (R : RM g A D) {j : Nat} (hj : j < tot A) : ms g j < 3 ∧ mk g j < 1000 ∧ 0 < A (ms g j) (mk g j) ∧ A (ms g j) (mk g j) < 100 ∧ D (ms g j) (mk g j) < 1073741824 := ⟨(R.2.2.1 j hj).2.1, (R.2.2.1 j hj).2.2.2.1, (R.2.2.1 j hj).2.2.2.2.2.1, (R.2.2.1 j hj).2.2.2.2.2.2.1, (R.2.2.1 j hj).2.2.2.2.2.2.2.2⟩
theorem RM.lt {g : Nat → Int32} (R : RM g A D) {j j' : Nat} (h1 : j < j') (h2 : j' < tot A) : ms g j * 1000 + mk g j < ms g j' * 1000 + mk g j' := R.2.2.2.1 j j' h1 h2
theorem RM.ex {g : Nat → Int32} (R : RM g A D) {s k : Nat} (hs : s < 3) (hk : k < 1000) (h0 : 0 < A s k) : ∃ j, j < tot A ∧ ms g j = s ∧ mk g j = k := R.2.2.2.2 s k hs hk h0
theorem RM.inj {g : Nat → Int32} (R : RM g A D) {j j' : Nat} (h1 : j < tot A) (h2 : j' < tot A) (hs : ms g j = ms g j') (hk : mk g j = mk g j') : j = j' := by
  rcases Nat.lt_trichotomy j j' with hl | he | hl
  · have := R.lt hl h2
    rw [hs, hk] at this
    omega
  · exact he
  · have := R.lt hl h1
    rw [hs, hk] at this
    omega
/-- the cells of a record -/
theorem of_s (S : MdS h) (R : RM (HI h 242) A D) {j : Nat} (hj : j < tot A) : CL 220 [.ref 241, .int (nI j), .int (nI 0)] h = some (.ok (.int (nI (97 + ms (HI h 242) j))), h) := by
  have m30 := R.m30
  rw [e220]
  simp (disch := omega) only [S.f, S.cw (show 13 + 4 * j < 169 by omega), R.r hj, cond_true, cond_false, bI_ok, bI_er, bV_ok, bV_er, bR_ok, bR_er, bD_ok, bD_er, bF_ok, bF_er, thr_ap, cl_nI, lt_nI, le_nI, eq_nI, m1_lt, nI_m1, m1_nI, nI_lt_m1, add_nI, sub_nI, addm_nI, z_addm, z_subm, mul_nI, fit1_0, fit1_1, fit2_n, HI_wI, HK_wI, HL_wI, HR_wI, ckK_wI, chI_wI, sI_wI, wI_wI, lz0, lz1, lz2, lz3, lz4, lz5, lz6, lz7, lz8, lz9, lz10, lz12, lz13, lz16, lz17, lz20, lz21, lz23, lz26, lz30, lz32, lz35, lz40, lz45, lz48, lz57, lz58, lz59, lz60, lz61, lz63, lz64, lz97, lz99, lz100, lz110, lz111, lz126, lz129, lz132, lz133, lz166, lz169, lz255, lz999, lz1183, lz1800, Nat.reduceAdd, Nat.reduceLT, Nat.reduceEqDiff, Nat.not_lt_zero, Nat.lt_irrefl, ↓reduceIte, Nat.zero_add, Nat.add_zero, ne_eq, not_true_eq_false, not_false_eq_true, reduceCtorEq]
theorem of_k (S : MdS h) (R : RM (HI h 242) A D) {j : Nat} (hj : j < tot A) : CL 220 [.ref 241, .int (nI j), .int (nI 1)] h = some (.ok (.int (nI (mk (HI h 242) j))), h) := by
  have m30 := R.m30
  rw [e220]
  simp (disch := omega) only [S.f, S.cw (show 13 + 4 * j + 1 < 169 by omega), R.r hj, cond_true, cond_false, bI_ok, bI_er, bV_ok, bV_er, bR_ok, bR_er, bD_ok, bD_er, bF_ok, bF_er, thr_ap, cl_nI, lt_nI, le_nI, eq_nI, m1_lt, nI_m1, m1_nI, nI_lt_m1, add_nI, sub_nI, addm_nI, z_addm, z_subm, mul_nI, fit1_0, fit1_1, fit2_n, HI_wI, HK_wI, HL_wI, HR_wI, ckK_wI, chI_wI, sI_wI, wI_wI, lz0, lz1, lz2, lz3, lz4, lz5, lz6, lz7, lz8, lz9, lz10, lz12, lz13, lz16, lz17, lz20, lz21, lz23, lz26, lz30, lz32, lz35, lz40, lz45, lz48, lz57, lz58, lz59, lz60, lz61, lz63, lz64, lz97, lz99, lz100, lz110, lz111, lz126, lz129, lz132, lz133, lz166, lz169, lz255, lz999, lz1183, lz1800, Nat.reduceAdd, Nat.reduceLT, Nat.reduceEqDiff, Nat.not_lt_zero, Nat.lt_irrefl, ↓reduceIte, Nat.zero_add, Nat.add_zero, ne_eq, not_true_eq_false, not_false_eq_true, reduceCtorEq]
theorem of_a (S : MdS h) (R : RM (HI h 242) A D) {j : Nat} (hj : j < tot A) : CL 220 [.ref 241, .int (nI j), .int (nI 2)] h = some (.ok (.int (nI (A (ms (HI h 242) j) (mk (HI h 242) j)))), h) := by
  have m30 := R.m30
  rw [e220]
  simp (disch := omega) only [S.f, S.cw (show 13 + 4 * j + 2 < 169 by omega), R.r hj, cond_true, cond_false, bI_ok, bI_er, bV_ok, bV_er, bR_ok, bR_er, bD_ok, bD_er, bF_ok, bF_er, thr_ap, cl_nI, lt_nI, le_nI, eq_nI, m1_lt, nI_m1, m1_nI, nI_lt_m1, add_nI, sub_nI, addm_nI, z_addm, z_subm, mul_nI, fit1_0, fit1_1, fit2_n, HI_wI, HK_wI, HL_wI, HR_wI, ckK_wI, chI_wI, sI_wI, wI_wI, lz0, lz1, lz2, lz3, lz4, lz5, lz6, lz7, lz8, lz9, lz10, lz12, lz13, lz16, lz17, lz20, lz21, lz23, lz26, lz30, lz32, lz35, lz40, lz45, lz48, lz57, lz58, lz59, lz60, lz61, lz63, lz64, lz97, lz99, lz100, lz110, lz111, lz126, lz129, lz132, lz133, lz166, lz169, lz255, lz999, lz1183, lz1800, Nat.reduceAdd, Nat.reduceLT, Nat.reduceEqDiff, Nat.not_lt_zero, Nat.lt_irrefl, ↓reduceIte, Nat.zero_add, Nat.add_zero, ne_eq, not_true_eq_false, not_false_eq_true, reduceCtorEq]
theorem of_d (S : MdS h) (R : RM (HI h 242) A D) {j : Nat} (hj : j < tot A) : CL 220 [.ref 241, .int (nI j), .int (nI 3)] h = some (.ok (.int (nI (D (ms (HI h 242) j) (mk (HI h 242) j)))), h) := by
  have m30 := R.m30
  rw [e220]
  simp (disch := omega) only [S.f, S.cw (show 13 + 4 * j + 3 < 169 by omega), R.r hj, cond_true, cond_false, bI_ok, bI_er, bV_ok, bV_er, bR_ok, bR_er, bD_ok, bD_er, bF_ok, bF_er, thr_ap, cl_nI, lt_nI, le_nI, eq_nI, m1_lt, nI_m1, m1_nI, nI_lt_m1, add_nI, sub_nI, addm_nI, z_addm, z_subm, mul_nI, fit1_0, fit1_1, fit2_n, HI_wI, HK_wI, HL_wI, HR_wI, ckK_wI, chI_wI, sI_wI, wI_wI, lz0, lz1, lz2, lz3, lz4, lz5, lz6, lz7, lz8, lz9, lz10, lz12, lz13, lz16, lz17, lz20, lz21, lz23, lz26, lz30, lz32, lz35, lz40, lz45, lz48, lz57, lz58, lz59, lz60, lz61, lz63, lz64, lz97, lz99, lz100, lz110, lz111, lz126, lz129, lz132, lz133, lz166, lz169, lz255, lz999, lz1183, lz1800, Nat.reduceAdd, Nat.reduceLT, Nat.reduceEqDiff, Nat.not_lt_zero, Nat.lt_irrefl, ↓reduceIte, Nat.zero_add, Nat.add_zero, ne_eq, not_true_eq_false, not_false_eq_true, reduceCtorEq]
/-- .. and of a report -/
theorem or_s (S : MdS h) (R : RQ (HI h 242) n Q) {i : Nat} (hi : i < n) : CL 217 [.ref 241, .int (nI i), .int (nI 0)] h = some (.ok (.int (nI (97 + (Q i).1))), h) := by
  have m30 := R.1
  rw [e217]
  simp (disch := omega) only [S.f, S.cw (show 133 + 3 * i < 169 by omega), (R.2.2 i hi).1, cond_true, cond_false, bI_ok, bI_er, bV_ok, bV_er, bR_ok, bR_er, bD_ok, bD_er, bF_ok, bF_er, thr_ap, cl_nI, lt_nI, le_nI, eq_nI, m1_lt, nI_m1, m1_nI, nI_lt_m1, add_nI, sub_nI, addm_nI, z_addm, z_subm, mul_nI, fit1_0, fit1_1, fit2_n, HI_wI, HK_wI, HL_wI, HR_wI, ckK_wI, chI_wI, sI_wI, wI_wI, lz0, lz1, lz2, lz3, lz4, lz5, lz6, lz7, lz8, lz9, lz10, lz12, lz13, lz16, lz17, lz20, lz21, lz23, lz26, lz30, lz32, lz35, lz40, lz45, lz48, lz57, lz58, lz59, lz60, lz61, lz63, lz64, lz97, lz99, lz100, lz110, lz111, lz126, lz129, lz132, lz133, lz166, lz169, lz255, lz999, lz1183, lz1800, Nat.reduceAdd, Nat.reduceLT, Nat.reduceEqDiff, Nat.not_lt_zero, Nat.lt_irrefl, ↓reduceIte, Nat.zero_add, Nat.add_zero, ne_eq, not_true_eq_false, not_false_eq_true, reduceCtorEq]
theorem or_k (S : MdS h) (R : RQ (HI h 242) n Q) {i : Nat} (hi : i < n) : CL 217 [.ref 241, .int (nI i), .int (nI 1)] h = some (.ok (.int (nI (Q i).2.1)), h) := by
  have m30 := R.1
  rw [e217]
  simp (disch := omega) only [S.f, S.cw (show 133 + 3 * i + 1 < 169 by omega), (R.2.2 i hi).2.1, cond_true, cond_false, bI_ok, bI_er, bV_ok, bV_er, bR_ok, bR_er, bD_ok, bD_er, bF_ok, bF_er, thr_ap, cl_nI, lt_nI, le_nI, eq_nI, m1_lt, nI_m1, m1_nI, nI_lt_m1, add_nI, sub_nI, addm_nI, z_addm, z_subm, mul_nI, fit1_0, fit1_1, fit2_n, HI_wI, HK_wI, HL_wI, HR_wI, ckK_wI, chI_wI, sI_wI, wI_wI, lz0, lz1, lz2, lz3, lz4, lz5, lz6, lz7, lz8, lz9, lz10, lz12, lz13, lz16, lz17, lz20, lz21, lz23, lz26, lz30, lz32, lz35, lz40, lz45, lz48, lz57, lz58, lz59, lz60, lz61, lz63, lz64, lz97, lz99, lz100, lz110, lz111, lz126, lz129, lz132, lz133, lz166, lz169, lz255, lz999, lz1183, lz1800, Nat.reduceAdd, Nat.reduceLT, Nat.reduceEqDiff, Nat.not_lt_zero, Nat.lt_irrefl, ↓reduceIte, Nat.zero_add, Nat.add_zero, ne_eq, not_true_eq_false, not_false_eq_true, reduceCtorEq]
theorem or_a (S : MdS h) (R : RQ (HI h 242) n Q) {i : Nat} (hi : i < n) : CL 217 [.ref 241, .int (nI i), .int (nI 2)] h = some (.ok (.int (nI (Q i).2.2)), h) := by
  have m30 := R.1
  rw [e217]
  simp (disch := omega) only [S.f, S.cw (show 133 + 3 * i + 2 < 169 by omega), (R.2.2 i hi).2.2.1, cond_true, cond_false, bI_ok, bI_er, bV_ok, bV_er, bR_ok, bR_er, bD_ok, bD_er, bF_ok, bF_er, thr_ap, cl_nI, lt_nI, le_nI, eq_nI, m1_lt, nI_m1, m1_nI, nI_lt_m1, add_nI, sub_nI, addm_nI, z_addm, z_subm, mul_nI, fit1_0, fit1_1, fit2_n, HI_wI, HK_wI, HL_wI, HR_wI, ckK_wI, chI_wI, sI_wI, wI_wI, lz0, lz1, lz2, lz3, lz4, lz5, lz6, lz7, lz8, lz9, lz10, lz12, lz13, lz16, lz17, lz20, lz21, lz23, lz26, lz30, lz32, lz35, lz40, lz45, lz48, lz57, lz58, lz59, lz60, lz61, lz63, lz64, lz97, lz99, lz100, lz110, lz111, lz126, lz129, lz132, lz133, lz166, lz169, lz255, lz999, lz1183, lz1800, Nat.reduceAdd, Nat.reduceLT, Nat.reduceEqDiff, Nat.not_lt_zero, Nat.lt_irrefl, ↓reduceIte, Nat.zero_add, Nat.add_zero, ne_eq, not_true_eq_false, not_false_eq_true, reduceCtorEq]
/-- find: the last record with a letter and a key -/
theorem find_ok (S : MdS h) (R : RM (HI h 242) A D) (x y : Int32) : CL 221 [.ref 241, .int x, .int y] h = some (.ok (.int (oI (la? (fun j => decide (nI (97 + ms (HI h 242) j) = x ∧ nI (mk (HI h 242) j) = y)) (tot A)))), h) := by
  have m30 := R.m30
  rw [e221]
  refine (lpUp (F := fun i => RF 221 5 [.ref 241, .int x, .int y, .int (oI (la? (fun j => decide (nI (97 + ms (HI h 242) j) = x ∧ nI (mk (HI h 242) j) = y)) i)), .int (nI i)] [] h) (Nat.zero_le (tot A)) (fun j _ hj => ?_)).trans ?_
  · have hs := of_s S R hj
    have hk := of_k S R hj
    rw [e221_5]
    by_cases h1 : nI (97 + ms (HI h 242) j) = x
    · by_cases h2 : nI (mk (HI h 242) j) = y <;> simp (disch := omega) only [S.f, S.cw (show 1 < 169 by decide), R.m, hj, hs, hk, la_suc, oI_some, h1, h2, and_self, and_false, decide_true, decide_false, Bool.false_eq_true, cond_true, cond_false, bI_ok, bI_er, bV_ok, bV_er, bR_ok, bR_er, bD_ok, bD_er, bF_ok, bF_er, thr_ap, cl_nI, lt_nI, le_nI, eq_nI, m1_lt, nI_m1, m1_nI, nI_lt_m1, add_nI, sub_nI, addm_nI, z_addm, z_subm, mul_nI, fit1_0, fit1_1, fit2_n, HI_wI, HK_wI, HL_wI, HR_wI, ckK_wI, chI_wI, sI_wI, wI_wI, lz0, lz1, lz2, lz3, lz4, lz5, lz6, lz7, lz8, lz9, lz10, lz12, lz13, lz16, lz17, lz20, lz21, lz23, lz26, lz30, lz32, lz35, lz40, lz45, lz48, lz57, lz58, lz59, lz60, lz61, lz63, lz64, lz97, lz99, lz100, lz110, lz111, lz126, lz129, lz132, lz133, lz166, lz169, lz255, lz999, lz1183, lz1800, Nat.reduceAdd, Nat.reduceLT, Nat.reduceEqDiff, Nat.not_lt_zero, Nat.lt_irrefl, ↓reduceIte, Nat.zero_add, Nat.add_zero, ne_eq, not_true_eq_false, not_false_eq_true, reduceCtorEq]
    · simp (disch := omega) only [S.f, S.cw (show 1 < 169 by decide), R.m, hj, hs, hk, la_suc, h1, false_and, decide_false, Bool.false_eq_true, cond_true, cond_false, bI_ok, bI_er, bV_ok, bV_er, bR_ok, bR_er, bD_ok, bD_er, bF_ok, bF_er, thr_ap, cl_nI, lt_nI, le_nI, eq_nI, m1_lt, nI_m1, m1_nI, nI_lt_m1, add_nI, sub_nI, addm_nI, z_addm, z_subm, mul_nI, fit1_0, fit1_1, fit2_n, HI_wI, HK_wI, HL_wI, HR_wI, ckK_wI, chI_wI, sI_wI, wI_wI, lz0, lz1, lz2, lz3, lz4, lz5, lz6, lz7, lz8, lz9, lz10, lz12, lz13, lz16, lz17, lz20, lz21, lz23, lz26, lz30, lz32, lz35, lz40, lz45, lz48, lz57, lz58, lz59, lz60, lz61, lz63, lz64, lz97, lz99, lz100, lz110, lz111, lz126, lz129, lz132, lz133, lz166, lz169, lz255, lz999, lz1183, lz1800, Nat.reduceAdd, Nat.reduceLT, Nat.reduceEqDiff, Nat.not_lt_zero, Nat.lt_irrefl, ↓reduceIte, Nat.zero_add, Nat.add_zero, ne_eq, not_true_eq_false, not_false_eq_true, reduceCtorEq]
  · rw [e221_5]
    simp (disch := omega) only [S.f, S.cw (show 1 < 169 by decide), R.m, cond_true, cond_false, bI_ok, bI_er, bV_ok, bV_er, bR_ok, bR_er, bD_ok, bD_er, bF_ok, bF_er, thr_ap, cl_nI, lt_nI, le_nI, eq_nI, m1_lt, nI_m1, m1_nI, nI_lt_m1, add_nI, sub_nI, addm_nI, z_addm, z_subm, mul_nI, fit1_0, fit1_1, fit2_n, HI_wI, HK_wI, HL_wI, HR_wI, ckK_wI, chI_wI, sI_wI, wI_wI, lz0, lz1, lz2, lz3, lz4, lz5, lz6, lz7, lz8, lz9, lz10, lz12, lz13, lz16, lz17, lz20, lz21, lz23, lz26, lz30, lz32, lz35, lz40, lz45, lz48, lz57, lz58, lz59, lz60, lz61, lz63, lz64, lz97, lz99, lz100, lz110, lz111, lz126, lz129, lz132, lz133, lz166, lz169, lz255, lz999, lz1183, lz1800, Nat.reduceAdd, Nat.reduceLT, Nat.reduceEqDiff, Nat.not_lt_zero, Nat.lt_irrefl, ↓reduceIte, Nat.zero_add, Nat.add_zero, ne_eq, not_true_eq_false, not_false_eq_true, reduceCtorEq]
theorem find_f (S : MdS h) (R : RM (HI h 242) A D) (x y : Int32) (hx : inr 97 99 x = false ∨ inr 0 999 y = false) : CL 221 [.ref 241, .int x, .int y] h = some (.ok (.int (-1)), h) := by
  have hf := find_ok S R x y
  have m30 := R.m30
  cases hq : la? (fun j => decide (nI (97 + ms (HI h 242) j) = x ∧ nI (mk (HI h 242) j) = y)) (tot A) with
  | none =>
    rw [hq] at hf
    exact hf
  | some j =>
    obtain ⟨h1, h2, _⟩ := la_some hq
    obtain ⟨h3, h4⟩ := of_decide_eq_true h2
    have hb := R.b h1
    rw [← h3, ← h4, inr_nI (by omega) (by omega) (by decide), inr_nI (by omega) (by omega) (by decide)] at hx
    rcases hx with hx | hx <;> cases hx
theorem find_n (S : MdS h) (R : RM (HI h 242) A D) {s k : Nat} (hs : s < 3) (hk : k < 1000) (h0 : A s k = 0) : CL 221 [.ref 241, .int (nI (97 + s)), .int (nI k)] h = some (.ok (.int (-1)), h) := by
  have hf := find_ok S R (nI (97 + s)) (nI k)
  have m30 := R.m30
  cases hq : la? (fun j => decide (nI (97 + ms (HI h 242) j) = nI (97 + s) ∧ nI (mk (HI h 242) j) = nI k)) (tot A) with
  | none =>
    rw [hq] at hf
    exact hf
  | some j =>
    obtain ⟨h1, h2, _⟩ := la_some hq
    obtain ⟨h3, h4⟩ := of_decide_eq_true h2
    have hb := R.b h1
    rw [eq_nI (by omega) (by omega)] at h3 h4
    have h3 : ms (HI h 242) j = s := by omega
    rw [h3, h4] at hb
    omega
theorem find_t (S : MdS h) (R : RM (HI h 242) A D) {s k : Nat} (hs : s < 3) (hk : k < 1000) (h0 : 0 < A s k) : ∃ j, j < tot A ∧ ms (HI h 242) j = s ∧ mk (HI h 242) j = k ∧ CL 221 [.ref 241, .int (nI (97 + s)), .int (nI k)] h = some (.ok (.int (nI j)), h) := by
  have hf := find_ok S R (nI (97 + s)) (nI k)
  have m30 := R.m30
  cases hq : la? (fun j => decide (nI (97 + ms (HI h 242) j) = nI (97 + s) ∧ nI (mk (HI h 242) j) = nI k)) (tot A) with
  | none =>
    obtain ⟨j, h1, h2, h3⟩ := R.ex hs hk h0
    have := of_decide_eq_false (la_none hq j h1)
    rw [h2, h3] at this
    exact absurd ⟨rfl, rfl⟩ this
  | some j =>
    obtain ⟨h1, h2, _⟩ := la_some hq
    obtain ⟨h3, h4⟩ := of_decide_eq_true h2
    have hb := R.b h1
    rw [eq_nI (by omega) (by omega)] at h3 h4
    rw [hq] at hf
    exact ⟨j, h1, by omega, h4, hf⟩
end MD
