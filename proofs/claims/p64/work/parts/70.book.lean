/-! THE BOOK -/
abbrev Bk : Type := AF × AF × Nat × QF × (Nat → Nat) × (Nat → Nat) × Nat
def kA (b : Bk) : AF := b.1
def kD (b : Bk) : AF := b.2.1
def kN (b : Bk) : Nat := b.2.2.1
def kQ (b : Bk) : QF := b.2.2.2.1
def kT (b : Bk) : Nat → Nat := b.2.2.2.2.1
def kU (b : Bk) : Nat → Nat := b.2.2.2.2.2.1
def kY (b : Bk) : Nat := b.2.2.2.2.2.2
def BkS (h : Hp) (B : Nat) : Prop := HK h B = 2 ∧ HR h B 0 = B + 1 ∧ HR h B 1 = B + 11 ∧ HR h B 2 = B + 15 ∧ HR h B 3 = B + 16 ∧ TbS h (B + 1) ∧ BtS h (B + 11) ∧ (HK h (B + 15) = 100 ∧ HL h (B + 15) = 3) ∧ (HK h (B + 16) = 100 ∧ HL h (B + 16) = 7)
def RK (f : Nat → Nat → Int32) (B : Nat) (b : Bk) : Prop := RT f (B + 1) (kA b) (kD b) ∧ RB f (B + 11) (kN b) (kQ b) ∧ (∀ s, s < 3 → f (B + 15) s = nI (kT b s) ∧ kT b s ≤ 9) ∧ (∀ i, i < 7 → f (B + 16) i = nI (kU b i)) ∧ f B 4 = nI (kY b)
/-- no number is above y -/
def Bd (b : Bk) (y : Nat) : Prop := (∀ i, i < 7 → kU b i ≤ y) ∧ kY b ≤ y
section BK
variable {h : Hp} {B : Nat} {b : Bk}
theorem BkS.wI (S : BkS h B) (f : Nat → Nat → Int32) : BkS (wI h f) B := S
theorem BkS.f (S : BkS h B) : ckK h B 2 = true ∧ HR h B 0 = B + 1 ∧ HR h B 1 = B + 11 ∧ HR h B 2 = B + 15 ∧ HR h B 3 = B + 16 := ⟨ck_of S.1, S.2.1, S.2.2.1, S.2.2.2.1, S.2.2.2.2.1⟩
theorem BkS.t (S : BkS h B) : TbS h (B + 1) := S.2.2.2.2.2.1
theorem BkS.bt (S : BkS h B) : BtS h (B + 11) := S.2.2.2.2.2.2.1
theorem BkS.ck (S : BkS h B) : ckK h (B + 1) 5 = true ∧ ckK h (B + 11) 1 = true := ⟨S.t.f.1, S.bt.f.1⟩
theorem BkS.tr (S : BkS h B) {s : Nat} (hs : s < 3) : chI h (B + 15) 100 (nI s) = true := chI_nI S.2.2.2.2.2.2.2.1.1 S.2.2.2.2.2.2.2.1.2 hs (by decide)
theorem BkS.tt (S : BkS h B) {i : Nat} (hi : i < 7) : chI h (B + 16) 100 (nI i) = true := chI_nI S.2.2.2.2.2.2.2.2.1 S.2.2.2.2.2.2.2.2.2 hi (by decide)
theorem RK.t {f : Nat → Nat → Int32} (R : RK f B b) : RT f (B + 1) (kA b) (kD b) := R.1
theorem RK.q {f : Nat → Nat → Int32} (R : RK f B b) : RB f (B + 11) (kN b) (kQ b) := R.2.1
theorem RK.tr {f : Nat → Nat → Int32} (R : RK f B b) {s : Nat} (hs : s < 3) : f (B + 15) s = nI (kT b s) ∧ kT b s ≤ 9 := R.2.2.1 s hs
theorem RK.tt {f : Nat → Nat → Int32} (R : RK f B b) {i : Nat} (hi : i < 7) : f (B + 16) i = nI (kU b i) := R.2.2.2.1 i hi
theorem RK.y {f : Nat → Nat → Int32} (R : RK f B b) : f B 4 = nI (kY b) := R.2.2.2.2
/-- the amount of a source's record with a key -/
theorem amountFor_A {t : Nat} {A D : AF} (S : TbS h t) (R : RT (HI h) t A D) {s k : Nat} (hs : s < 3) (hk : k < 1000) : CL 26 [.ref t, .int (nI s), .int (nI k)] h = some (.ok (.int (nI (A s k))), h) := by
  rw [amountFor_ok S R.N hs hk]
  rcases R.cases hk with ⟨r, h1, h2, h3⟩ | ⟨h1, h2, _⟩
  · rw [h3, ← h2, R.a hs h1]
  · rw [h2, R.no hs hk h1]
theorem RT.a9 {f : Nat → Nat → Int32} {t : Nat} {A D : AF} (R : RT f t A D) {s k : Nat} (hs : s < 3) (hk : k < 1000) : A s k < 100 := by
  rcases R.cases hk with ⟨r, h1, h2, h3⟩ | ⟨h1, h2, _⟩
  · rw [← h2, R.a hs h1]
    exact R.N.a9 hs (by have := R.n30; omega)
  · rw [R.no hs hk h1]
    decide
/-- what report i finds, the table being as it may be -/
theorem outcome_ok (S : BkS h B) {A D : AF} {n : Nat} {Q : QF} (R : RT (HI h) (B + 1) A D) (Rq : RB (HI h) (B + 11) n Q) {i : Nat} (hi : i < n) : CL 27 [.ref B, .int (nI i)] h = some (.ok (.int (nI (oc A Q i))), h) := by
  have hb := Rq.b hi
  have n12 := Rq.1
  have hp := previous_ok S.bt Rq hi
  rw [e27]
  unfold oc pv oc3
  cases hl : la? (isP Q (Q i).1 (Q i).2.1) i with
  | some j =>
    obtain ⟨h1, h2, _⟩ := la_some hl
    have hj := Rq.b (i := j) (by omega)
    rw [hl] at hp
    have hz : ¬((Q j).2.2 = 0) := by omega
    have hz2 : ¬((Q i).2.2 = 0) := by omega
    by_cases hd : (Q j).2.2 = (Q i).2.2
    · simp (disch := omega) only [S.f, S.ck, S.bt.f, S.bt.r (show i < 12 by omega), S.bt.r (show j < 12 by omega), Rq.q hi, Rq.q (show j < n by omega), hp, oI, neg_nI, hz2, hz, hd, cond_true, cond_false, bI_ok, bI_er, bV_ok, bV_er, bR_ok, bR_er, bD_ok, bD_er, bF_ok, bF_er, thr_ap, cl_nI, lt_nI, le_nI, eq_nI, m1_lt, nI_m1, m1_nI, nI_lt_m1, add_nI, sub_nI, addm_nI, z_addm, z_subm, mul_nI, fit1_0, fit1_1, fit2_n, HI_wI, HK_wI, HL_wI, HR_wI, ckK_wI, chI_wI, sI_wI, wI_wI, lz0, lz1, lz2, lz3, lz4, lz5, lz6, lz7, lz8, lz9, lz10, lz12, lz13, lz16, lz17, lz20, lz21, lz23, lz26, lz30, lz32, lz35, lz40, lz45, lz48, lz57, lz58, lz59, lz60, lz61, lz63, lz64, lz97, lz99, lz100, lz110, lz111, lz126, lz129, lz132, lz133, lz166, lz169, lz255, lz999, lz1183, lz1800, Nat.reduceAdd, Nat.reduceLT, Nat.reduceEqDiff, Nat.not_lt_zero, Nat.lt_irrefl, ↓reduceIte, Nat.zero_add, Nat.add_zero, ne_eq, not_true_eq_false, not_false_eq_true, reduceCtorEq]
    · simp (disch := omega) only [S.f, S.ck, S.bt.f, S.bt.r (show i < 12 by omega), S.bt.r (show j < 12 by omega), Rq.q hi, Rq.q (show j < n by omega), hp, oI, neg_nI, hz, hd, cond_true, cond_false, bI_ok, bI_er, bV_ok, bV_er, bR_ok, bR_er, bD_ok, bD_er, bF_ok, bF_er, thr_ap, cl_nI, lt_nI, le_nI, eq_nI, m1_lt, nI_m1, m1_nI, nI_lt_m1, add_nI, sub_nI, addm_nI, z_addm, z_subm, mul_nI, fit1_0, fit1_1, fit2_n, HI_wI, HK_wI, HL_wI, HR_wI, ckK_wI, chI_wI, sI_wI, wI_wI, lz0, lz1, lz2, lz3, lz4, lz5, lz6, lz7, lz8, lz9, lz10, lz12, lz13, lz16, lz17, lz20, lz21, lz23, lz26, lz30, lz32, lz35, lz40, lz45, lz48, lz57, lz58, lz59, lz60, lz61, lz63, lz64, lz97, lz99, lz100, lz110, lz111, lz126, lz129, lz132, lz133, lz166, lz169, lz255, lz999, lz1183, lz1800, Nat.reduceAdd, Nat.reduceLT, Nat.reduceEqDiff, Nat.not_lt_zero, Nat.lt_irrefl, ↓reduceIte, Nat.zero_add, Nat.add_zero, ne_eq, not_true_eq_false, not_false_eq_true, reduceCtorEq]
  | none =>
    rw [hl] at hp
    have ha := amountFor_A S.t R hb.1 hb.2.1
    have ha9 := R.a9 hb.1 hb.2.1
    have hm1 : (-1 : Int32) < 0 := by decide
    by_cases hz : A (Q i).1 (Q i).2.1 = 0
    · simp (disch := omega) only [S.f, S.ck, S.bt.f, S.bt.r (show i < 12 by omega), Rq.q hi, hp, oI, ha, hz, cond_true, cond_false, bI_ok, bI_er, bV_ok, bV_er, bR_ok, bR_er, bD_ok, bD_er, bF_ok, bF_er, thr_ap, cl_nI, lt_nI, le_nI, eq_nI, m1_lt, nI_m1, m1_nI, nI_lt_m1, add_nI, sub_nI, addm_nI, z_addm, z_subm, mul_nI, fit1_0, fit1_1, fit2_n, HI_wI, HK_wI, HL_wI, HR_wI, ckK_wI, chI_wI, sI_wI, wI_wI, lz0, lz1, lz2, lz3, lz4, lz5, lz6, lz7, lz8, lz9, lz10, lz12, lz13, lz16, lz17, lz20, lz21, lz23, lz26, lz30, lz32, lz35, lz40, lz45, lz48, lz57, lz58, lz59, lz60, lz61, lz63, lz64, lz97, lz99, lz100, lz110, lz111, lz126, lz129, lz132, lz133, lz166, lz169, lz255, lz999, lz1183, lz1800, Nat.reduceAdd, Nat.reduceLT, Nat.reduceEqDiff, Nat.not_lt_zero, Nat.lt_irrefl, ↓reduceIte, Nat.zero_add, Nat.add_zero, ne_eq, not_true_eq_false, not_false_eq_true, reduceCtorEq]
    · by_cases hd : A (Q i).1 (Q i).2.1 = (Q i).2.2
      · simp (disch := omega) only [S.f, S.ck, S.bt.f, S.bt.r (show i < 12 by omega), Rq.q hi, hp, oI, ha, hz, hd, show ¬((Q i).2.2 = 0) by omega, cond_true, cond_false, bI_ok, bI_er, bV_ok, bV_er, bR_ok, bR_er, bD_ok, bD_er, bF_ok, bF_er, thr_ap, cl_nI, lt_nI, le_nI, eq_nI, m1_lt, nI_m1, m1_nI, nI_lt_m1, add_nI, sub_nI, addm_nI, z_addm, z_subm, mul_nI, fit1_0, fit1_1, fit2_n, HI_wI, HK_wI, HL_wI, HR_wI, ckK_wI, chI_wI, sI_wI, wI_wI, lz0, lz1, lz2, lz3, lz4, lz5, lz6, lz7, lz8, lz9, lz10, lz12, lz13, lz16, lz17, lz20, lz21, lz23, lz26, lz30, lz32, lz35, lz40, lz45, lz48, lz57, lz58, lz59, lz60, lz61, lz63, lz64, lz97, lz99, lz100, lz110, lz111, lz126, lz129, lz132, lz133, lz166, lz169, lz255, lz999, lz1183, lz1800, Nat.reduceAdd, Nat.reduceLT, Nat.reduceEqDiff, Nat.not_lt_zero, Nat.lt_irrefl, ↓reduceIte, Nat.zero_add, Nat.add_zero, ne_eq, not_true_eq_false, not_false_eq_true, reduceCtorEq]
      · simp (disch := omega) only [S.f, S.ck, S.bt.f, S.bt.r (show i < 12 by omega), Rq.q hi, hp, oI, ha, hz, hd, cond_true, cond_false, bI_ok, bI_er, bV_ok, bV_er, bR_ok, bR_er, bD_ok, bD_er, bF_ok, bF_er, thr_ap, cl_nI, lt_nI, le_nI, eq_nI, m1_lt, nI_m1, m1_nI, nI_lt_m1, add_nI, sub_nI, addm_nI, z_addm, z_subm, mul_nI, fit1_0, fit1_1, fit2_n, HI_wI, HK_wI, HL_wI, HR_wI, ckK_wI, chI_wI, sI_wI, wI_wI, lz0, lz1, lz2, lz3, lz4, lz5, lz6, lz7, lz8, lz9, lz10, lz12, lz13, lz16, lz17, lz20, lz21, lz23, lz26, lz30, lz32, lz35, lz40, lz45, lz48, lz57, lz58, lz59, lz60, lz61, lz63, lz64, lz97, lz99, lz100, lz110, lz111, lz126, lz129, lz132, lz133, lz166, lz169, lz255, lz999, lz1183, lz1800, Nat.reduceAdd, Nat.reduceLT, Nat.reduceEqDiff, Nat.not_lt_zero, Nat.lt_irrefl, ↓reduceIte, Nat.zero_add, Nat.add_zero, ne_eq, not_true_eq_false, not_false_eq_true, reduceCtorEq]
theorem oc_lt (A : AF) (Q : QF) (i : Nat) : oc A Q i < 111 := by
  unfold oc oc3
  split
  · omega
  · split <;> omega
/-- the reports that find nothing, among the first n -/
def nwA (A : AF) (Q : QF) (n : Nat) : Nat := sumN (fun j => b2n (decide (oc A Q j = 110))) n
theorem nwA_le (A : AF) (Q : QF) (n : Nat) : nwA A Q n ≤ n := by
  have := sumN_bd (f := fun j => b2n (decide (oc A Q j = 110))) (n := n) (b := 1) (fun i _ => by unfold b2n; split <;> omega)
  unfold nwA
  omega
theorem hasRoom_ok (S : BkS h B) (R : RK (HI h) B b) : CL 28 [.ref B] h = some (.ok (.int (nI (b2n (decide (tot (kA b) + nwA (kA b) (kQ b) (kN b) ≤ 30))))), h) := by
  have n12 := R.q.1
  have hm := R.t.N.m
  have hm30 := R.t.N.m30
  rw [R.t.m] at hm hm30
  rw [e28]
  simp only [S.f, S.ck, hm, lz0, cond_true]
  have h0 : tot (kA b) + nwA (kA b) (kQ b) 0 = tot (kA b) := Nat.add_zero _
  refine (congrArg (fun q => RF 28 10 [.ref B, .int (nI q), .int (nI 0)] [] h) h0.symm).trans ?_
  refine (lpUp (F := fun i => RF 28 10 [.ref B, .int (nI (tot (kA b) + nwA (kA b) (kQ b) i)), .int (nI i)] [] h) (Nat.zero_le (kN b)) (fun i _ hi => ?_)).trans ?_
  · have ho := outcome_ok S R.t R.q hi
    have hl := oc_lt (kA b) (kQ b) i
    rw [e28_10]
    unfold nwA
    by_cases hz : oc (kA b) (kQ b) i = 110
    · simp (disch := omega) only [S.f, S.ck, R.q.z, hi, ho, hz, sumN, decide_true, b2n, Nat.add_assoc, cond_true, cond_false, bI_ok, bI_er, bV_ok, bV_er, bR_ok, bR_er, bD_ok, bD_er, bF_ok, bF_er, thr_ap, cl_nI, lt_nI, le_nI, eq_nI, m1_lt, nI_m1, m1_nI, nI_lt_m1, add_nI, sub_nI, addm_nI, z_addm, z_subm, mul_nI, fit1_0, fit1_1, fit2_n, HI_wI, HK_wI, HL_wI, HR_wI, ckK_wI, chI_wI, sI_wI, wI_wI, lz0, lz1, lz2, lz3, lz4, lz5, lz6, lz7, lz8, lz9, lz10, lz12, lz13, lz16, lz17, lz20, lz21, lz23, lz26, lz30, lz32, lz35, lz40, lz45, lz48, lz57, lz58, lz59, lz60, lz61, lz63, lz64, lz97, lz99, lz100, lz110, lz111, lz126, lz129, lz132, lz133, lz166, lz169, lz255, lz999, lz1183, lz1800, Nat.reduceAdd, Nat.reduceLT, Nat.reduceEqDiff, Nat.not_lt_zero, Nat.lt_irrefl, ↓reduceIte, Nat.zero_add, Nat.add_zero, ne_eq, not_true_eq_false, not_false_eq_true, reduceCtorEq]
    · simp (disch := omega) only [S.f, S.ck, R.q.z, hi, ho, hz, sumN, decide_false, b2n, Bool.false_eq_true, cond_true, cond_false, bI_ok, bI_er, bV_ok, bV_er, bR_ok, bR_er, bD_ok, bD_er, bF_ok, bF_er, thr_ap, cl_nI, lt_nI, le_nI, eq_nI, m1_lt, nI_m1, m1_nI, nI_lt_m1, add_nI, sub_nI, addm_nI, z_addm, z_subm, mul_nI, fit1_0, fit1_1, fit2_n, HI_wI, HK_wI, HL_wI, HR_wI, ckK_wI, chI_wI, sI_wI, wI_wI, lz0, lz1, lz2, lz3, lz4, lz5, lz6, lz7, lz8, lz9, lz10, lz12, lz13, lz16, lz17, lz20, lz21, lz23, lz26, lz30, lz32, lz35, lz40, lz45, lz48, lz57, lz58, lz59, lz60, lz61, lz63, lz64, lz97, lz99, lz100, lz110, lz111, lz126, lz129, lz132, lz133, lz166, lz169, lz255, lz999, lz1183, lz1800, Nat.reduceAdd, Nat.reduceLT, Nat.reduceEqDiff, Nat.not_lt_zero, Nat.lt_irrefl, ↓reduceIte, Nat.zero_add, Nat.add_zero, ne_eq, not_true_eq_false, not_false_eq_true, reduceCtorEq]
  · have hl := nwA_le (kA b) (kQ b) (kN b)
    rw [e28_10]
    by_cases hz : tot (kA b) + nwA (kA b) (kQ b) (kN b) ≤ 30
    · simp (disch := omega) only [S.f, S.ck, R.q.z, hz, show ¬(30 < tot (kA b) + nwA (kA b) (kQ b) (kN b)) by omega, decide_true, b2n, cond_true, cond_false, bI_ok, bI_er, bV_ok, bV_er, bR_ok, bR_er, bD_ok, bD_er, bF_ok, bF_er, thr_ap, cl_nI, lt_nI, le_nI, eq_nI, m1_lt, nI_m1, m1_nI, nI_lt_m1, add_nI, sub_nI, addm_nI, z_addm, z_subm, mul_nI, fit1_0, fit1_1, fit2_n, HI_wI, HK_wI, HL_wI, HR_wI, ckK_wI, chI_wI, sI_wI, wI_wI, lz0, lz1, lz2, lz3, lz4, lz5, lz6, lz7, lz8, lz9, lz10, lz12, lz13, lz16, lz17, lz20, lz21, lz23, lz26, lz30, lz32, lz35, lz40, lz45, lz48, lz57, lz58, lz59, lz60, lz61, lz63, lz64, lz97, lz99, lz100, lz110, lz111, lz126, lz129, lz132, lz133, lz166, lz169, lz255, lz999, lz1183, lz1800, Nat.reduceAdd, Nat.reduceLT, Nat.reduceEqDiff, Nat.not_lt_zero, Nat.lt_irrefl, ↓reduceIte, Nat.zero_add, Nat.add_zero, ne_eq, not_true_eq_false, not_false_eq_true, reduceCtorEq]
    · simp (disch := omega) only [S.f, S.ck, R.q.z, hz, show 30 < tot (kA b) + nwA (kA b) (kQ b) (kN b) by omega, decide_false, b2n, Bool.false_eq_true, cond_true, cond_false, bI_ok, bI_er, bV_ok, bV_er, bR_ok, bR_er, bD_ok, bD_er, bF_ok, bF_er, thr_ap, cl_nI, lt_nI, le_nI, eq_nI, m1_lt, nI_m1, m1_nI, nI_lt_m1, add_nI, sub_nI, addm_nI, z_addm, z_subm, mul_nI, fit1_0, fit1_1, fit2_n, HI_wI, HK_wI, HL_wI, HR_wI, ckK_wI, chI_wI, sI_wI, wI_wI, lz0, lz1, lz2, lz3, lz4, lz5, lz6, lz7, lz8, lz9, lz10, lz12, lz13, lz16, lz17, lz20, lz21, lz23, lz26, lz30, lz32, lz35, lz40, lz45, lz48, lz57, lz58, lz59, lz60, lz61, lz63, lz64, lz97, lz99, lz100, lz110, lz111, lz126, lz129, lz132, lz133, lz166, lz169, lz255, lz999, lz1183, lz1800, Nat.reduceAdd, Nat.reduceLT, Nat.reduceEqDiff, Nat.not_lt_zero, Nat.lt_irrefl, ↓reduceIte, Nat.zero_add, Nat.add_zero, ne_eq, not_true_eq_false, not_false_eq_true, reduceCtorEq]
end BK
