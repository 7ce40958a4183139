/-! THE BATCH -/
abbrev QF : Type := Nat → Nat × Nat × Nat
/-- the last place below n with p -/
def la? (p : Nat → Bool) : Nat → Option Nat
  | 0 => none
  | n + 1 => if p n then some n else la? p n
theorem la_some {p : Nat → Bool} : ∀ {n i : Nat}, la? p n = some i → i < n ∧ p i = true ∧ ∀ j, i < j → j < n → p j = false
  | 0, i, h => by cases h
  | n + 1, i, h => by
    unfold la? at h
    split at h
    · cases h
      exact ⟨by omega, by assumption, fun j _ _ => by omega⟩
    · obtain ⟨h1, h2, h3⟩ := la_some h
      refine ⟨by omega, h2, fun j q1 q2 => ?_⟩
      by_cases hj : j = n
      · subst hj
        exact Bool.eq_false_iff.mpr (by assumption)
      · exact h3 j q1 (by omega)
theorem la_none {p : Nat → Bool} : ∀ {n : Nat}, la? p n = none → ∀ j, j < n → p j = false
  | 0, _, j, hj => by omega
  | n + 1, h, j, hj => by
    unfold la? at h
    split at h
    · cases h
    · by_cases hjn : j = n
      · subst hjn
        exact Bool.eq_false_iff.mpr (by assumption)
      · exact la_none h j (by omega)
def BtS (h : Hp) (c : Nat) : Prop := HK h c = 1 ∧ HR h c 0 = c + 1 ∧ HR h c 1 = c + 2 ∧ HR h c 2 = c + 3 ∧ (HK h (c + 1) = 100 ∧ HL h (c + 1) = 12) ∧ (HK h (c + 2) = 100 ∧ HL h (c + 2) = 12) ∧ (HK h (c + 3) = 100 ∧ HL h (c + 3) = 12)
def RB (f : Nat → Nat → Int32) (c n : Nat) (Q : QF) : Prop := n ≤ 12 ∧ f c 3 = nI n ∧ ∀ i, i < n → f (c + 1) i = nI (Q i).1 ∧ f (c + 2) i = nI (Q i).2.1 ∧ f (c + 3) i = nI (Q i).2.2 ∧ (Q i).1 < 3 ∧ (Q i).2.1 < 1000 ∧ 0 < (Q i).2.2 ∧ (Q i).2.2 < 100
def isQ (Q : QF) (s k a i : Nat) : Bool := decide ((Q i).1 = s ∧ (Q i).2.1 = k ∧ (Q i).2.2 = a)
def isP (Q : QF) (s k i : Nat) : Bool := decide ((Q i).1 = s ∧ (Q i).2.1 = k)
/-- without the report at p -/
def rmQ (Q : QF) (p : Nat) : QF := fun i => if p ≤ i then Q (i + 1) else Q i
def adQ (Q : QF) (n s k a : Nat) : QF := fun i => if i = n then (s, k, a) else Q i
/-- the amount that report i finds -/
def pv (A : AF) (Q : QF) (i : Nat) : Nat := match la? (isP Q (Q i).1 (Q i).2.1) i with
  | some j => (Q j).2.2
  | none => A (Q i).1 (Q i).2.1
def oc3 (p a : Nat) : Nat := if p = 0 then 110 else if p = a then 100 else 99
def oc (A : AF) (Q : QF) (i : Nat) : Nat := oc3 (pv A Q i) (Q i).2.2
/-- the amounts when the first i reports are counted -/
def prA (A : AF) (Q : QF) : Nat → AF
  | 0 => A
  | i + 1 => sA (prA A Q i) (Q i).1 (Q i).2.1 (Q i).2.2
theorem prA_la {A : AF} {Q : QF} {s k : Nat} : ∀ {i : Nat}, prA A Q i s k = match la? (isP Q s k) i with
    | some j => (Q j).2.2
    | none => A s k
  | 0 => rfl
  | i + 1 => by
    simp only [prA, la?]
    by_cases h : isP Q s k i = true
    · rw [if_pos h]
      obtain ⟨h1, h2⟩ := of_decide_eq_true h
      subst h1
      subst h2
      exact sA_eq _ _ _ _
    · rw [if_neg h]
      have h1 := of_decide_eq_false (Bool.eq_false_iff.mpr h)
      rw [sA_ne (fun q => h1 ⟨q.1.symm, q.2.symm⟩)]
      exact prA_la
theorem pv_prA (A : AF) (Q : QF) (i : Nat) : pv A Q i = prA A Q i (Q i).1 (Q i).2.1 := prA_la.symm
/-- .. also with the table as it is then -/
theorem pv_now (A : AF) (Q : QF) (i : Nat) : pv (prA A Q i) Q i = pv A Q i := by
  unfold pv
  cases h : la? (isP Q (Q i).1 (Q i).2.1) i with
  | some j => rfl
  | none =>
    dsimp only
    rw [prA_la, h]
section BT
variable {h : Hp} {c n : Nat} {Q : QF}
theorem BtS.f (S : BtS h c) : ckK h c 1 = true ∧ HR h c 0 = c + 1 ∧ HR h c 1 = c + 2 ∧ HR h c 2 = c + 3 := ⟨ck_of S.1, S.2.1, S.2.2.1, S.2.2.2.1⟩
theorem BtS.r (S : BtS h c) {i : Nat} (hi : i < 12) : chI h (c + 1) 100 (nI i) = true ∧ chI h (c + 2) 100 (nI i) = true ∧ chI h (c + 3) 100 (nI i) = true := ⟨chI_nI S.2.2.2.2.1.1 S.2.2.2.2.1.2 hi (by decide), chI_nI S.2.2.2.2.2.1.1 S.2.2.2.2.2.1.2 hi (by decide), chI_nI S.2.2.2.2.2.2.1 S.2.2.2.2.2.2.2 hi (by decide)⟩
theorem BtS.wI (S : BtS h c) (f : Nat → Nat → Int32) : BtS (wI h f) c := S
theorem RB.z {f : Nat → Nat → Int32} (R : RB f c n Q) : f c 3 = nI n := R.2.1
theorem RB.q {f : Nat → Nat → Int32} (R : RB f c n Q) {i : Nat} (hi : i < n) : f (c + 1) i = nI (Q i).1 ∧ f (c + 2) i = nI (Q i).2.1 ∧ f (c + 3) i = nI (Q i).2.2 := ⟨(R.2.2 i hi).1, (R.2.2 i hi).2.1, (R.2.2 i hi).2.2.1⟩
theorem RB.b {f : Nat → Nat → Int32} (R : RB f c n Q) {i : Nat} (hi : i < n) : (Q i).1 < 3 ∧ (Q i).2.1 < 1000 ∧ 0 < (Q i).2.2 ∧ (Q i).2.2 < 100 := (R.2.2 i hi).2.2.2
theorem subm_nI (j : Nat) : nI j + -nI 1 = nI j - nI 1 := (Int32.sub_eq_add_neg _ _).symm
theorem latest_ok (S : BtS h c) (R : RB (HI h) c n Q) {s k a : Nat} (hs : s < 3) (hk : k < 1000) (ha : a < 100) : CL 31 [.ref c, .int (nI s), .int (nI k), .int (nI a)] h = some (.ok (.int (oI (la? (isQ Q s k a) n))), h) := by
  have n12 := R.1
  have key : ∀ j, j ≤ n → RF 31 8 [.ref c, .int (nI s), .int (nI k), .int (nI a), .int (nI j - nI 1)] [] h = some (.ok (.int (oI (la? (isQ Q s k a) j))), h) := by
    intro j
    induction j with
    | zero =>
      intro _
      rw [e31_8]
      simp (disch := omega) only [la?, oI, cond_true, cond_false, bI_ok, bI_er, bV_ok, bV_er, bR_ok, bR_er, bD_ok, bD_er, bF_ok, bF_er, thr_ap, cl_nI, lt_nI, le_nI, eq_nI, m1_lt, nI_m1, m1_nI, nI_lt_m1, add_nI, sub_nI, addm_nI, z_addm, z_subm, mul_nI, fit1_0, fit1_1, fit2_n, HI_wI, HK_wI, HL_wI, HR_wI, ckK_wI, chI_wI, sI_wI, wI_wI, lz0, lz1, lz2, lz3, lz4, lz5, lz6, lz7, lz8, lz9, lz10, lz12, lz13, lz16, lz17, lz20, lz21, lz23, lz26, lz30, lz32, lz35, lz40, lz45, lz48, lz57, lz58, lz59, lz60, lz61, lz63, lz64, lz97, lz99, lz100, lz110, lz111, lz126, lz129, lz132, lz133, lz166, lz169, lz255, lz999, lz1183, lz1800, Nat.reduceAdd, Nat.reduceLT, Nat.reduceEqDiff, Nat.not_lt_zero, Nat.lt_irrefl, ↓reduceIte, Nat.zero_add, Nat.add_zero, ne_eq, not_true_eq_false, not_false_eq_true, reduceCtorEq]
    | succ j ih =>
      intro hj
      have ih := ih (by omega)
      have hb := R.b (i := j) (by omega)
      rw [e31_8]
      unfold la? isQ
      by_cases h1 : (Q j).1 = s
      · by_cases h2 : (Q j).2.1 = k
        · by_cases h3 : (Q j).2.2 = a
          · simp (disch := omega) only [S.f, S.r (show j < 12 by omega), R.q (show j < n by omega), Nat.add_sub_cancel, neg_nI, h1, h2, h3, oI, and_self, decide_true, cond_true, cond_false, bI_ok, bI_er, bV_ok, bV_er, bR_ok, bR_er, bD_ok, bD_er, bF_ok, bF_er, thr_ap, cl_nI, lt_nI, le_nI, eq_nI, m1_lt, nI_m1, m1_nI, nI_lt_m1, add_nI, sub_nI, addm_nI, z_addm, z_subm, mul_nI, fit1_0, fit1_1, fit2_n, HI_wI, HK_wI, HL_wI, HR_wI, ckK_wI, chI_wI, sI_wI, wI_wI, lz0, lz1, lz2, lz3, lz4, lz5, lz6, lz7, lz8, lz9, lz10, lz12, lz13, lz16, lz17, lz20, lz21, lz23, lz26, lz30, lz32, lz35, lz40, lz45, lz48, lz57, lz58, lz59, lz60, lz61, lz63, lz64, lz97, lz99, lz100, lz110, lz111, lz126, lz129, lz132, lz133, lz166, lz169, lz255, lz999, lz1183, lz1800, Nat.reduceAdd, Nat.reduceLT, Nat.reduceEqDiff, Nat.not_lt_zero, Nat.lt_irrefl, ↓reduceIte, Nat.zero_add, Nat.add_zero, ne_eq, not_true_eq_false, not_false_eq_true, reduceCtorEq]
          · simp (disch := omega) only [S.f, S.r (show j < 12 by omega), R.q (show j < n by omega), Nat.add_sub_cancel, neg_nI, h1, h2, h3, and_false, decide_false, Bool.false_eq_true, subm_nI, ih, cond_true, cond_false, bI_ok, bI_er, bV_ok, bV_er, bR_ok, bR_er, bD_ok, bD_er, bF_ok, bF_er, thr_ap, cl_nI, lt_nI, le_nI, eq_nI, m1_lt, nI_m1, m1_nI, nI_lt_m1, add_nI, sub_nI, addm_nI, z_addm, z_subm, mul_nI, fit1_0, fit1_1, fit2_n, HI_wI, HK_wI, HL_wI, HR_wI, ckK_wI, chI_wI, sI_wI, wI_wI, lz0, lz1, lz2, lz3, lz4, lz5, lz6, lz7, lz8, lz9, lz10, lz12, lz13, lz16, lz17, lz20, lz21, lz23, lz26, lz30, lz32, lz35, lz40, lz45, lz48, lz57, lz58, lz59, lz60, lz61, lz63, lz64, lz97, lz99, lz100, lz110, lz111, lz126, lz129, lz132, lz133, lz166, lz169, lz255, lz999, lz1183, lz1800, Nat.reduceAdd, Nat.reduceLT, Nat.reduceEqDiff, Nat.not_lt_zero, Nat.lt_irrefl, ↓reduceIte, Nat.zero_add, Nat.add_zero, ne_eq, not_true_eq_false, not_false_eq_true, reduceCtorEq]
            rfl
        · simp (disch := omega) only [S.f, S.r (show j < 12 by omega), R.q (show j < n by omega), Nat.add_sub_cancel, neg_nI, h1, h2, false_and, and_false, decide_false, Bool.false_eq_true, subm_nI, ih, cond_true, cond_false, bI_ok, bI_er, bV_ok, bV_er, bR_ok, bR_er, bD_ok, bD_er, bF_ok, bF_er, thr_ap, cl_nI, lt_nI, le_nI, eq_nI, m1_lt, nI_m1, m1_nI, nI_lt_m1, add_nI, sub_nI, addm_nI, z_addm, z_subm, mul_nI, fit1_0, fit1_1, fit2_n, HI_wI, HK_wI, HL_wI, HR_wI, ckK_wI, chI_wI, sI_wI, wI_wI, lz0, lz1, lz2, lz3, lz4, lz5, lz6, lz7, lz8, lz9, lz10, lz12, lz13, lz16, lz17, lz20, lz21, lz23, lz26, lz30, lz32, lz35, lz40, lz45, lz48, lz57, lz58, lz59, lz60, lz61, lz63, lz64, lz97, lz99, lz100, lz110, lz111, lz126, lz129, lz132, lz133, lz166, lz169, lz255, lz999, lz1183, lz1800, Nat.reduceAdd, Nat.reduceLT, Nat.reduceEqDiff, Nat.not_lt_zero, Nat.lt_irrefl, ↓reduceIte, Nat.zero_add, Nat.add_zero, ne_eq, not_true_eq_false, not_false_eq_true, reduceCtorEq]
          rfl
      · simp (disch := omega) only [S.f, S.r (show j < 12 by omega), R.q (show j < n by omega), Nat.add_sub_cancel, neg_nI, h1, false_and, decide_false, Bool.false_eq_true, subm_nI, ih, cond_true, cond_false, bI_ok, bI_er, bV_ok, bV_er, bR_ok, bR_er, bD_ok, bD_er, bF_ok, bF_er, thr_ap, cl_nI, lt_nI, le_nI, eq_nI, m1_lt, nI_m1, m1_nI, nI_lt_m1, add_nI, sub_nI, addm_nI, z_addm, z_subm, mul_nI, fit1_0, fit1_1, fit2_n, HI_wI, HK_wI, HL_wI, HR_wI, ckK_wI, chI_wI, sI_wI, wI_wI, lz0, lz1, lz2, lz3, lz4, lz5, lz6, lz7, lz8, lz9, lz10, lz12, lz13, lz16, lz17, lz20, lz21, lz23, lz26, lz30, lz32, lz35, lz40, lz45, lz48, lz57, lz58, lz59, lz60, lz61, lz63, lz64, lz97, lz99, lz100, lz110, lz111, lz126, lz129, lz132, lz133, lz166, lz169, lz255, lz999, lz1183, lz1800, Nat.reduceAdd, Nat.reduceLT, Nat.reduceEqDiff, Nat.not_lt_zero, Nat.lt_irrefl, ↓reduceIte, Nat.zero_add, Nat.add_zero, ne_eq, not_true_eq_false, not_false_eq_true, reduceCtorEq]
        rfl
  rw [e31]
  simp only [S.f, R.z, lz1, cond_true]
  exact key n (Nat.le_refl _)
theorem previous_ok (S : BtS h c) (R : RB (HI h) c n Q) {p : Nat} (hp : p < n) : CL 25 [.ref c, .int (nI p)] h = some (.ok (.int (oI (la? (isP Q (Q p).1 (Q p).2.1) p))), h) := by
  have n12 := R.1
  have hbp := R.b hp
  have key : ∀ j, j ≤ p → RF 25 4 [.ref c, .int (nI p), .int (nI j - nI 1)] [] h = some (.ok (.int (oI (la? (isP Q (Q p).1 (Q p).2.1) j))), h) := by
    intro j
    induction j with
    | zero =>
      intro _
      rw [e25_4]
      simp (disch := omega) only [la?, oI, cond_true, cond_false, bI_ok, bI_er, bV_ok, bV_er, bR_ok, bR_er, bD_ok, bD_er, bF_ok, bF_er, thr_ap, cl_nI, lt_nI, le_nI, eq_nI, m1_lt, nI_m1, m1_nI, nI_lt_m1, add_nI, sub_nI, addm_nI, z_addm, z_subm, mul_nI, fit1_0, fit1_1, fit2_n, HI_wI, HK_wI, HL_wI, HR_wI, ckK_wI, chI_wI, sI_wI, wI_wI, lz0, lz1, lz2, lz3, lz4, lz5, lz6, lz7, lz8, lz9, lz10, lz12, lz13, lz16, lz17, lz20, lz21, lz23, lz26, lz30, lz32, lz35, lz40, lz45, lz48, lz57, lz58, lz59, lz60, lz61, lz63, lz64, lz97, lz99, lz100, lz110, lz111, lz126, lz129, lz132, lz133, lz166, lz169, lz255, lz999, lz1183, lz1800, Nat.reduceAdd, Nat.reduceLT, Nat.reduceEqDiff, Nat.not_lt_zero, Nat.lt_irrefl, ↓reduceIte, Nat.zero_add, Nat.add_zero, ne_eq, not_true_eq_false, not_false_eq_true, reduceCtorEq]
    | succ j ih =>
      intro hj
      have ih := ih (by omega)
      have hb := R.b (i := j) (by omega)
      rw [e25_4]
      unfold la? isP
      by_cases h1 : (Q j).1 = (Q p).1
      · by_cases h2 : (Q j).2.1 = (Q p).2.1
        · simp (disch := omega) only [S.f, S.r (show j < 12 by omega), S.r (show p < 12 by omega), R.q (show j < n by omega), R.q hp, Nat.add_sub_cancel, neg_nI, h1, h2, oI, and_self, decide_true, cond_true, cond_false, bI_ok, bI_er, bV_ok, bV_er, bR_ok, bR_er, bD_ok, bD_er, bF_ok, bF_er, thr_ap, cl_nI, lt_nI, le_nI, eq_nI, m1_lt, nI_m1, m1_nI, nI_lt_m1, add_nI, sub_nI, addm_nI, z_addm, z_subm, mul_nI, fit1_0, fit1_1, fit2_n, HI_wI, HK_wI, HL_wI, HR_wI, ckK_wI, chI_wI, sI_wI, wI_wI, lz0, lz1, lz2, lz3, lz4, lz5, lz6, lz7, lz8, lz9, lz10, lz12, lz13, lz16, lz17, lz20, lz21, lz23, lz26, lz30, lz32, lz35, lz40, lz45, lz48, lz57, lz58, lz59, lz60, lz61, lz63, lz64, lz97, lz99, lz100, lz110, lz111, lz126, lz129, lz132, lz133, lz166, lz169, lz255, lz999, lz1183, lz1800, Nat.reduceAdd, Nat.reduceLT, Nat.reduceEqDiff, Nat.not_lt_zero, Nat.lt_irrefl, ↓reduceIte, Nat.zero_add, Nat.add_zero, ne_eq, not_true_eq_false, not_false_eq_true, reduceCtorEq]
        · simp (disch := omega) only [S.f, S.r (show j < 12 by omega), S.r (show p < 12 by omega), R.q (show j < n by omega), R.q hp, Nat.add_sub_cancel, neg_nI, h1, h2, and_false, decide_false, Bool.false_eq_true, subm_nI, ih, cond_true, cond_false, bI_ok, bI_er, bV_ok, bV_er, bR_ok, bR_er, bD_ok, bD_er, bF_ok, bF_er, thr_ap, cl_nI, lt_nI, le_nI, eq_nI, m1_lt, nI_m1, m1_nI, nI_lt_m1, add_nI, sub_nI, addm_nI, z_addm, z_subm, mul_nI, fit1_0, fit1_1, fit2_n, HI_wI, HK_wI, HL_wI, HR_wI, ckK_wI, chI_wI, sI_wI, wI_wI, lz0, lz1, lz2, lz3, lz4, lz5, lz6, lz7, lz8, lz9, lz10, lz12, lz13, lz16, lz17, lz20, lz21, lz23, lz26, lz30, lz32, lz35, lz40, lz45, lz48, lz57, lz58, lz59, lz60, lz61, lz63, lz64, lz97, lz99, lz100, lz110, lz111, lz126, lz129, lz132, lz133, lz166, lz169, lz255, lz999, lz1183, lz1800, Nat.reduceAdd, Nat.reduceLT, Nat.reduceEqDiff, Nat.not_lt_zero, Nat.lt_irrefl, ↓reduceIte, Nat.zero_add, Nat.add_zero, ne_eq, not_true_eq_false, not_false_eq_true, reduceCtorEq]
          rfl
      · simp (disch := omega) only [S.f, S.r (show j < 12 by omega), S.r (show p < 12 by omega), R.q (show j < n by omega), R.q hp, Nat.add_sub_cancel, neg_nI, h1, false_and, decide_false, Bool.false_eq_true, subm_nI, ih, cond_true, cond_false, bI_ok, bI_er, bV_ok, bV_er, bR_ok, bR_er, bD_ok, bD_er, bF_ok, bF_er, thr_ap, cl_nI, lt_nI, le_nI, eq_nI, m1_lt, nI_m1, m1_nI, nI_lt_m1, add_nI, sub_nI, addm_nI, z_addm, z_subm, mul_nI, fit1_0, fit1_1, fit2_n, HI_wI, HK_wI, HL_wI, HR_wI, ckK_wI, chI_wI, sI_wI, wI_wI, lz0, lz1, lz2, lz3, lz4, lz5, lz6, lz7, lz8, lz9, lz10, lz12, lz13, lz16, lz17, lz20, lz21, lz23, lz26, lz30, lz32, lz35, lz40, lz45, lz48, lz57, lz58, lz59, lz60, lz61, lz63, lz64, lz97, lz99, lz100, lz110, lz111, lz126, lz129, lz132, lz133, lz166, lz169, lz255, lz999, lz1183, lz1800, Nat.reduceAdd, Nat.reduceLT, Nat.reduceEqDiff, Nat.not_lt_zero, Nat.lt_irrefl, ↓reduceIte, Nat.zero_add, Nat.add_zero, ne_eq, not_true_eq_false, not_false_eq_true, reduceCtorEq]
        rfl
  rw [e25]
  simp only [lz1]
  exact key p (Nat.le_refl _)
theorem add_ok (S : BtS h c) (R : RB (HI h) c n Q) (hn : n < 12) {s k a : Nat} (hs : s < 3) (hk : k < 1000) (ha : 0 < a) (ha2 : a < 100) : ∃ f', CL 41 [.ref c, .int (nI s), .int (nI k), .int (nI a)] h = some (.ok (.int (nI (n + 1))), wI h f') ∧ RB f' c (n + 1) (adQ Q n s k a) ∧ Fr c (c + 4) (HI h) f' := by
  refine ⟨u2 (u2 (u2 (u2 (HI h) (c + 1) n (nI s)) (c + 2) n (nI k)) (c + 3) n (nI a)) c 3 (nI (n + 1)), ?_, ⟨by omega, w2_eq _ _ _ _, fun i hi => ?_⟩, ?_⟩
  · rw [e41]
    simp (disch := omega) only [S.f, S.r hn, R.z, w2_ne, w2_eq, hn, cond_true, cond_false, bI_ok, bI_er, bV_ok, bV_er, bR_ok, bR_er, bD_ok, bD_er, bF_ok, bF_er, thr_ap, cl_nI, lt_nI, le_nI, eq_nI, m1_lt, nI_m1, m1_nI, nI_lt_m1, add_nI, sub_nI, addm_nI, z_addm, z_subm, mul_nI, fit1_0, fit1_1, fit2_n, HI_wI, HK_wI, HL_wI, HR_wI, ckK_wI, chI_wI, sI_wI, wI_wI, lz0, lz1, lz2, lz3, lz4, lz5, lz6, lz7, lz8, lz9, lz10, lz12, lz13, lz16, lz17, lz20, lz21, lz23, lz26, lz30, lz32, lz35, lz40, lz45, lz48, lz57, lz58, lz59, lz60, lz61, lz63, lz64, lz97, lz99, lz100, lz110, lz111, lz126, lz129, lz132, lz133, lz166, lz169, lz255, lz999, lz1183, lz1800, Nat.reduceAdd, Nat.reduceLT, Nat.reduceEqDiff, Nat.not_lt_zero, Nat.lt_irrefl, ↓reduceIte, Nat.zero_add, Nat.add_zero, ne_eq, not_true_eq_false, not_false_eq_true, reduceCtorEq]
  · unfold adQ
    by_cases h1 : i = n
    · subst h1
      rw [if_pos rfl, w2_ne (by omega), w2_ne (by omega), w2_ne (by omega), w2_eq, w2_ne (by omega), w2_ne (by omega), w2_eq, w2_ne (by omega), w2_eq]
      exact ⟨rfl, rfl, rfl, hs, hk, ha, ha2⟩
    · have hi' : i < n := by omega
      rw [if_neg h1, w2_ne (by omega), w2_ne (by omega), w2_ne (by omega), w2_ne (by omega), w2_ne (by omega), w2_ne (by omega), w2_ne (by omega), w2_ne (by omega), w2_ne (by omega), w2_ne (by omega), w2_ne (by omega), w2_ne (by omega)]
      exact R.2.2 i hi'
  · exact (((Fr.rf.u2 (by omega) (by omega)).u2 (by omega) (by omega)).u2 (by omega) (by omega)).u2 (by omega) (by omega)
/-- places p .. i - 1 are those behind them -/
def rbF (f : Nat → Nat → Int32) (c p i : Nat) : Nat → Nat → Int32 := fun a x => if p ≤ x ∧ x < i ∧ c + 1 ≤ a ∧ a < c + 4 then f a (x + 1) else f a x
theorem rb_step (g : Nat → Nat → Int32) (c p i : Nat) (h1 : p ≤ i) : u2 (u2 (u2 (rbF g c p i) (c + 1) i (rbF g c p i (c + 1) (i + 1))) (c + 2) i (rbF g c p i (c + 2) (i + 1))) (c + 3) i (rbF g c p i (c + 3) (i + 1)) = rbF g c p (i + 1) := by
  funext a x
  simp only [u2, rbF]
  repeat' split
  all_goals first | rfl | omega | grind
theorem removeAt_ok (S : BtS h c) (R : RB (HI h) c n Q) {p : Nat} (hp : p < n) : ∃ f', CL 42 [.ref c, .int (nI p)] h = some (.ok (.int (nI (n - 1))), wI h f') ∧ RB f' c (n - 1) (rmQ Q p) ∧ Fr c (c + 4) (HI h) f' := by
  have n12 := R.1
  have hz : rbF (u2 (HI h) c 3 (nI (n - 1))) c p (n - 1) c 3 = nI (n - 1) := (if_neg (by omega)).trans (w2_eq _ _ _ _)
  refine ⟨rbF (u2 (HI h) c 3 (nI (n - 1))) c p (n - 1), ?_, ⟨by omega, hz, fun i hi => ?_⟩, ?_⟩
  · rw [e42]
    have e0 : u2 (HI h) c 3 (nI (n - 1)) = rbF (u2 (HI h) c 3 (nI (n - 1))) c p p := by
      funext a x
      exact (if_neg (by omega)).symm
    simp (disch := omega) only [S.f, R.z, neg_nI, hp, cond_true, cond_false, bI_ok, bI_er, bV_ok, bV_er, bR_ok, bR_er, bD_ok, bD_er, bF_ok, bF_er, thr_ap, cl_nI, lt_nI, le_nI, eq_nI, m1_lt, nI_m1, m1_nI, nI_lt_m1, add_nI, sub_nI, addm_nI, z_addm, z_subm, mul_nI, fit1_0, fit1_1, fit2_n, HI_wI, HK_wI, HL_wI, HR_wI, ckK_wI, chI_wI, sI_wI, wI_wI, lz0, lz1, lz2, lz3, lz4, lz5, lz6, lz7, lz8, lz9, lz10, lz12, lz13, lz16, lz17, lz20, lz21, lz23, lz26, lz30, lz32, lz35, lz40, lz45, lz48, lz57, lz58, lz59, lz60, lz61, lz63, lz64, lz97, lz99, lz100, lz110, lz111, lz126, lz129, lz132, lz133, lz166, lz169, lz255, lz999, lz1183, lz1800, Nat.reduceAdd, Nat.reduceLT, Nat.reduceEqDiff, Nat.not_lt_zero, Nat.lt_irrefl, ↓reduceIte, Nat.zero_add, Nat.add_zero, ne_eq, not_true_eq_false, not_false_eq_true, reduceCtorEq]
    refine (congrArg (fun q => RF 42 29 [.ref c, .int (nI p), .int (nI p)] [] (wI h q)) e0).trans ?_
    refine (lpUp (F := fun i => RF 42 29 [.ref c, .int (nI p), .int (nI i)] [] (wI h (rbF (u2 (HI h) c 3 (nI (n - 1))) c p i))) (show p ≤ n - 1 by omega) (fun i h1 h2 => ?_)).trans ?_
    · have e3 : rbF (u2 (HI h) c 3 (nI (n - 1))) c p i c 3 = nI (n - 1) := (if_neg (by omega)).trans (w2_eq _ _ _ _)
      have e4 : u2 (u2 (u2 (rbF (u2 (HI h) c 3 (nI (n - 1))) c p i) (c + 1) i (rbF (u2 (HI h) c 3 (nI (n - 1))) c p i (c + 1) (i + 1))) (c + 2) i (rbF (u2 (HI h) c 3 (nI (n - 1))) c p i (c + 2) (i + 1))) (c + 3) i (rbF (u2 (HI h) c 3 (nI (n - 1))) c p i (c + 3) (i + 1)) = rbF (u2 (HI h) c 3 (nI (n - 1))) c p (i + 1) := rb_step _ c p i h1
      rw [e42_29]
      simp (disch := omega) only [S.f, S.r (show i < 12 by omega), S.r (show i + 1 < 12 by omega), e3, h2, w2_ne, e4, cond_true, cond_false, bI_ok, bI_er, bV_ok, bV_er, bR_ok, bR_er, bD_ok, bD_er, bF_ok, bF_er, thr_ap, cl_nI, lt_nI, le_nI, eq_nI, m1_lt, nI_m1, m1_nI, nI_lt_m1, add_nI, sub_nI, addm_nI, z_addm, z_subm, mul_nI, fit1_0, fit1_1, fit2_n, HI_wI, HK_wI, HL_wI, HR_wI, ckK_wI, chI_wI, sI_wI, wI_wI, lz0, lz1, lz2, lz3, lz4, lz5, lz6, lz7, lz8, lz9, lz10, lz12, lz13, lz16, lz17, lz20, lz21, lz23, lz26, lz30, lz32, lz35, lz40, lz45, lz48, lz57, lz58, lz59, lz60, lz61, lz63, lz64, lz97, lz99, lz100, lz110, lz111, lz126, lz129, lz132, lz133, lz166, lz169, lz255, lz999, lz1183, lz1800, Nat.reduceAdd, Nat.reduceLT, Nat.reduceEqDiff, Nat.not_lt_zero, Nat.lt_irrefl, ↓reduceIte, Nat.zero_add, Nat.add_zero, ne_eq, not_true_eq_false, not_false_eq_true, reduceCtorEq]
    · rw [e42_29]
      simp (disch := omega) only [S.f, hz, cond_true, cond_false, bI_ok, bI_er, bV_ok, bV_er, bR_ok, bR_er, bD_ok, bD_er, bF_ok, bF_er, thr_ap, cl_nI, lt_nI, le_nI, eq_nI, m1_lt, nI_m1, m1_nI, nI_lt_m1, add_nI, sub_nI, addm_nI, z_addm, z_subm, mul_nI, fit1_0, fit1_1, fit2_n, HI_wI, HK_wI, HL_wI, HR_wI, ckK_wI, chI_wI, sI_wI, wI_wI, lz0, lz1, lz2, lz3, lz4, lz5, lz6, lz7, lz8, lz9, lz10, lz12, lz13, lz16, lz17, lz20, lz21, lz23, lz26, lz30, lz32, lz35, lz40, lz45, lz48, lz57, lz58, lz59, lz60, lz61, lz63, lz64, lz97, lz99, lz100, lz110, lz111, lz126, lz129, lz132, lz133, lz166, lz169, lz255, lz999, lz1183, lz1800, Nat.reduceAdd, Nat.reduceLT, Nat.reduceEqDiff, Nat.not_lt_zero, Nat.lt_irrefl, ↓reduceIte, Nat.zero_add, Nat.add_zero, ne_eq, not_true_eq_false, not_false_eq_true, reduceCtorEq]
  · have hq : ∀ a, c + 1 ≤ a → a < c + 4 → rbF (u2 (HI h) c 3 (nI (n - 1))) c p (n - 1) a i = HI h a (if p ≤ i then i + 1 else i) := fun a h1 h2 => by
      simp only [u2, rbF]
      repeat' split
      all_goals first | rfl | omega | grind
    rw [hq _ (by omega) (by omega), hq _ (by omega) (by omega), hq _ (by omega) (by omega)]
    unfold rmQ
    by_cases h1 : p ≤ i
    · simp only [h1, if_true]
      exact R.2.2 (i + 1) (by omega)
    · simp only [h1, if_false]
      exact R.2.2 i (by omega)
  · intro a x ha
    unfold rbF
    rw [if_neg (by omega), w2_ne (by omega)]
end BT
