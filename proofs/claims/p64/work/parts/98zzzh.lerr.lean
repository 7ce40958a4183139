/-! THE LAW: what it asks, with the throws -/
def olv (o : Option Nat) : Int32 := match o with
  | some k => nI k
  | none => (-2004 : Int32)
section LAW11
variable {N : Nat} {xs : Nat → Int32} {h g : Hp} {b : Bk} {y : Nat} {B : Nat}
theorem am_f (S : QS h B) (x k : Int32) (hx : inr 97 99 x = false ∨ inr 0 999 k = false) : CL 22 [.ref 31, .int x, .int k] h = some (.error 1, hthr h) := by
  rw [e22, rqRec_f x k hx]
  simp only [S.f, cond_true, cond_false, bI_ok, bI_er, bV_ok, bV_er, bR_ok, bR_er, bD_ok, bD_er, bF_ok, bF_er, thr_ap, cl_nI, lt_nI, le_nI, eq_nI, m1_lt, nI_m1, m1_nI, nI_lt_m1, add_nI, sub_nI, addm_nI, z_addm, z_subm, mul_nI, fit1_0, fit1_1, fit2_n, HI_wI, HK_wI, HL_wI, HR_wI, ckK_wI, chI_wI, sI_wI, wI_wI, lz0, lz1, lz2, lz3, lz4, lz5, lz6, lz7, lz8, lz9, lz10, lz12, lz13, lz16, lz17, lz20, lz21, lz23, lz26, lz30, lz32, lz35, lz40, lz45, lz48, lz57, lz58, lz59, lz60, lz61, lz63, lz64, lz97, lz99, lz100, lz110, lz111, lz126, lz129, lz132, lz133, lz166, lz169, lz255, lz999, lz1183, lz1800, Nat.reduceAdd, Nat.reduceLT, Nat.reduceEqDiff, Nat.not_lt_zero, Nat.lt_irrefl, ↓reduceIte, Nat.zero_add, Nat.add_zero, ne_eq, not_true_eq_false, not_false_eq_true, reduceCtorEq]
theorem am_n (S : QS h B) (R : RK (HI h) B b) {s k : Nat} (hs : s < 3) (hk : k < 1000) (h0 : kA b s k = 0) : CL 22 [.ref 31, .int (nI (97 + s)), .int (nI k)] h = some (.error 4, hthr h) := by
  rw [e22, rqRec_n S R hs hk h0]
  simp only [S.f, cond_true, cond_false, bI_ok, bI_er, bV_ok, bV_er, bR_ok, bR_er, bD_ok, bD_er, bF_ok, bF_er, thr_ap, cl_nI, lt_nI, le_nI, eq_nI, m1_lt, nI_m1, m1_nI, nI_lt_m1, add_nI, sub_nI, addm_nI, z_addm, z_subm, mul_nI, fit1_0, fit1_1, fit2_n, HI_wI, HK_wI, HL_wI, HR_wI, ckK_wI, chI_wI, sI_wI, wI_wI, lz0, lz1, lz2, lz3, lz4, lz5, lz6, lz7, lz8, lz9, lz10, lz12, lz13, lz16, lz17, lz20, lz21, lz23, lz26, lz30, lz32, lz35, lz40, lz45, lz48, lz57, lz58, lz59, lz60, lz61, lz63, lz64, lz97, lz99, lz100, lz110, lz111, lz126, lz129, lz132, lz133, lz166, lz169, lz255, lz999, lz1183, lz1800, Nat.reduceAdd, Nat.reduceLT, Nat.reduceEqDiff, Nat.not_lt_zero, Nat.lt_irrefl, ↓reduceIte, Nat.zero_add, Nat.add_zero, ne_eq, not_true_eq_false, not_false_eq_true, reduceCtorEq]
theorem ka_f (S : QS h B) (x k : Int32) (hx : inr 97 99 x = false) : CL 129 [.ref 31, .int x, .int k] h = some (.error 1, hthr h) := by
  rw [e129, rqS_f hx]
  simp only [S.f, cond_true, cond_false, bI_ok, bI_er, bV_ok, bV_er, bR_ok, bR_er, bD_ok, bD_er, bF_ok, bF_er, thr_ap, cl_nI, lt_nI, le_nI, eq_nI, m1_lt, nI_m1, m1_nI, nI_lt_m1, add_nI, sub_nI, addm_nI, z_addm, z_subm, mul_nI, fit1_0, fit1_1, fit2_n, HI_wI, HK_wI, HL_wI, HR_wI, ckK_wI, chI_wI, sI_wI, wI_wI, lz0, lz1, lz2, lz3, lz4, lz5, lz6, lz7, lz8, lz9, lz10, lz12, lz13, lz16, lz17, lz20, lz21, lz23, lz26, lz30, lz32, lz35, lz40, lz45, lz48, lz57, lz58, lz59, lz60, lz61, lz63, lz64, lz97, lz99, lz100, lz110, lz111, lz126, lz129, lz132, lz133, lz166, lz169, lz255, lz999, lz1183, lz1800, Nat.reduceAdd, Nat.reduceLT, Nat.reduceEqDiff, Nat.not_lt_zero, Nat.lt_irrefl, ↓reduceIte, Nat.zero_add, Nat.add_zero, ne_eq, not_true_eq_false, not_false_eq_true, reduceCtorEq]
theorem ol_f (S : QS h B) (x : Int32) (hx : inr 97 99 x = false) : CL 142 [.ref 31, .int x] h = some (.error 1, hthr h) := by
  rw [e142, rqS_f hx]
  simp only [S.f, cond_true, cond_false, bI_ok, bI_er, bV_ok, bV_er, bR_ok, bR_er, bD_ok, bD_er, bF_ok, bF_er, thr_ap, cl_nI, lt_nI, le_nI, eq_nI, m1_lt, nI_m1, m1_nI, nI_lt_m1, add_nI, sub_nI, addm_nI, z_addm, z_subm, mul_nI, fit1_0, fit1_1, fit2_n, HI_wI, HK_wI, HL_wI, HR_wI, ckK_wI, chI_wI, sI_wI, wI_wI, lz0, lz1, lz2, lz3, lz4, lz5, lz6, lz7, lz8, lz9, lz10, lz12, lz13, lz16, lz17, lz20, lz21, lz23, lz26, lz30, lz32, lz35, lz40, lz45, lz48, lz57, lz58, lz59, lz60, lz61, lz63, lz64, lz97, lz99, lz100, lz110, lz111, lz126, lz129, lz132, lz133, lz166, lz169, lz255, lz999, lz1183, lz1800, Nat.reduceAdd, Nat.reduceLT, Nat.reduceEqDiff, Nat.not_lt_zero, Nat.lt_irrefl, ↓reduceIte, Nat.zero_add, Nat.add_zero, ne_eq, not_true_eq_false, not_false_eq_true, reduceCtorEq]
theorem st_f (S : QS h B) (k : Int32) (hk : inr 0 999 k = false) : CL 178 [.ref 31, .int k] h = some (.error 1, hthr h) := by
  rw [e178, rqRow_f k hk]
  simp only [S.f, cond_true, cond_false, bI_ok, bI_er, bV_ok, bV_er, bR_ok, bR_er, bD_ok, bD_er, bF_ok, bF_er, thr_ap, cl_nI, lt_nI, le_nI, eq_nI, m1_lt, nI_m1, m1_nI, nI_lt_m1, add_nI, sub_nI, addm_nI, z_addm, z_subm, mul_nI, fit1_0, fit1_1, fit2_n, HI_wI, HK_wI, HL_wI, HR_wI, ckK_wI, chI_wI, sI_wI, wI_wI, lz0, lz1, lz2, lz3, lz4, lz5, lz6, lz7, lz8, lz9, lz10, lz12, lz13, lz16, lz17, lz20, lz21, lz23, lz26, lz30, lz32, lz35, lz40, lz45, lz48, lz57, lz58, lz59, lz60, lz61, lz63, lz64, lz97, lz99, lz100, lz110, lz111, lz126, lz129, lz132, lz133, lz166, lz169, lz255, lz999, lz1183, lz1800, Nat.reduceAdd, Nat.reduceLT, Nat.reduceEqDiff, Nat.not_lt_zero, Nat.lt_irrefl, ↓reduceIte, Nat.zero_add, Nat.add_zero, ne_eq, not_true_eq_false, not_false_eq_true, reduceCtorEq]
theorem st_n (S : QS h B) (R : RK (HI h) B b) {k : Nat} (hk : k < 1000) (h0 : hoA (kA b) k = 0) : CL 178 [.ref 31, .int (nI k)] h = some (.error 4, hthr h) := by
  rw [e178, rqRow_n S R hk h0]
  simp only [S.f, cond_true, cond_false, bI_ok, bI_er, bV_ok, bV_er, bR_ok, bR_er, bD_ok, bD_er, bF_ok, bF_er, thr_ap, cl_nI, lt_nI, le_nI, eq_nI, m1_lt, nI_m1, m1_nI, nI_lt_m1, add_nI, sub_nI, addm_nI, z_addm, z_subm, mul_nI, fit1_0, fit1_1, fit2_n, HI_wI, HK_wI, HL_wI, HR_wI, ckK_wI, chI_wI, sI_wI, wI_wI, lz0, lz1, lz2, lz3, lz4, lz5, lz6, lz7, lz8, lz9, lz10, lz12, lz13, lz16, lz17, lz20, lz21, lz23, lz26, lz30, lz32, lz35, lz40, lz45, lz48, lz57, lz58, lz59, lz60, lz61, lz63, lz64, lz97, lz99, lz100, lz110, lz111, lz126, lz129, lz132, lz133, lz166, lz169, lz255, lz999, lz1183, lz1800, Nat.reduceAdd, Nat.reduceLT, Nat.reduceEqDiff, Nat.not_lt_zero, Nat.lt_irrefl, ↓reduceIte, Nat.zero_add, Nat.add_zero, ne_eq, not_true_eq_false, not_false_eq_true, reduceCtorEq]
theorem ac_f (S : QS h B) (k : Int32) (hk : inr 0 999 k = false) : CL 16 [.ref 31, .int k] h = some (.error 1, hthr h) := by
  rw [e16, rqRow_f k hk]
  simp only [S.f, cond_true, cond_false, bI_ok, bI_er, bV_ok, bV_er, bR_ok, bR_er, bD_ok, bD_er, bF_ok, bF_er, thr_ap, cl_nI, lt_nI, le_nI, eq_nI, m1_lt, nI_m1, m1_nI, nI_lt_m1, add_nI, sub_nI, addm_nI, z_addm, z_subm, mul_nI, fit1_0, fit1_1, fit2_n, HI_wI, HK_wI, HL_wI, HR_wI, ckK_wI, chI_wI, sI_wI, wI_wI, lz0, lz1, lz2, lz3, lz4, lz5, lz6, lz7, lz8, lz9, lz10, lz12, lz13, lz16, lz17, lz20, lz21, lz23, lz26, lz30, lz32, lz35, lz40, lz45, lz48, lz57, lz58, lz59, lz60, lz61, lz63, lz64, lz97, lz99, lz100, lz110, lz111, lz126, lz129, lz132, lz133, lz166, lz169, lz255, lz999, lz1183, lz1800, Nat.reduceAdd, Nat.reduceLT, Nat.reduceEqDiff, Nat.not_lt_zero, Nat.lt_irrefl, ↓reduceIte, Nat.zero_add, Nat.add_zero, ne_eq, not_true_eq_false, not_false_eq_true, reduceCtorEq]
theorem ac_n (S : QS h B) (R : RK (HI h) B b) {k : Nat} (hk : k < 1000) (h0 : hoA (kA b) k = 0) : CL 16 [.ref 31, .int (nI k)] h = some (.error 4, hthr h) := by
  rw [e16, rqRow_n S R hk h0]
  simp only [S.f, cond_true, cond_false, bI_ok, bI_er, bV_ok, bV_er, bR_ok, bR_er, bD_ok, bD_er, bF_ok, bF_er, thr_ap, cl_nI, lt_nI, le_nI, eq_nI, m1_lt, nI_m1, m1_nI, nI_lt_m1, add_nI, sub_nI, addm_nI, z_addm, z_subm, mul_nI, fit1_0, fit1_1, fit2_n, HI_wI, HK_wI, HL_wI, HR_wI, ckK_wI, chI_wI, sI_wI, wI_wI, lz0, lz1, lz2, lz3, lz4, lz5, lz6, lz7, lz8, lz9, lz10, lz12, lz13, lz16, lz17, lz20, lz21, lz23, lz26, lz30, lz32, lz35, lz40, lz45, lz48, lz57, lz58, lz59, lz60, lz61, lz63, lz64, lz97, lz99, lz100, lz110, lz111, lz126, lz129, lz132, lz133, lz166, lz169, lz255, lz999, lz1183, lz1800, Nat.reduceAdd, Nat.reduceLT, Nat.reduceEqDiff, Nat.not_lt_zero, Nat.lt_irrefl, ↓reduceIte, Nat.zero_add, Nat.add_zero, ne_eq, not_true_eq_false, not_false_eq_true, reduceCtorEq]
theorem pp_f (S : RrS h) {x z : Int32} (hx : inr 97 99 x = true) (hb : two x z = false) : CL 149 [.ref 31, .int x, .int z] h = some (.error 1, hthr h) := by
  obtain ⟨i, i1, i2, rfl⟩ := inr_t (by decide) (by decide) hx
  have h1 := rqS_t (h := h) (s := i - 97) (by omega)
  rw [show 97 + (i - 97) = i by omega] at h1
  rw [e149, h1]
  simp only [S.qs.f, rqO_f hb hx, cond_true, cond_false, bI_ok, bI_er, bV_ok, bV_er, bR_ok, bR_er, bD_ok, bD_er, bF_ok, bF_er, thr_ap, cl_nI, lt_nI, le_nI, eq_nI, m1_lt, nI_m1, m1_nI, nI_lt_m1, add_nI, sub_nI, addm_nI, z_addm, z_subm, mul_nI, fit1_0, fit1_1, fit2_n, HI_wI, HK_wI, HL_wI, HR_wI, ckK_wI, chI_wI, sI_wI, wI_wI, lz0, lz1, lz2, lz3, lz4, lz5, lz6, lz7, lz8, lz9, lz10, lz12, lz13, lz16, lz17, lz20, lz21, lz23, lz26, lz30, lz32, lz35, lz40, lz45, lz48, lz57, lz58, lz59, lz60, lz61, lz63, lz64, lz97, lz99, lz100, lz110, lz111, lz126, lz129, lz132, lz133, lz166, lz169, lz255, lz999, lz1183, lz1800, Nat.reduceAdd, Nat.reduceLT, Nat.reduceEqDiff, Nat.not_lt_zero, Nat.lt_irrefl, ↓reduceIte, Nat.zero_add, Nat.add_zero, ne_eq, not_true_eq_false, not_false_eq_true, reduceCtorEq]
/-- an answer, or that there is none: the heap then tells of one throw more -/
def An (r : Res) (v : Int32) (h : Hp) : Prop := r = some (.ok (.int v), h) ∨ r = some (.ok (.int v), hthr h)
theorem askb (K : LK N xs h b y) (x k a : Int32) : (inr 97 99 x = false ∨ inr 0 999 k = false → CL 190 [.ref 31, .int (0 : Int32), .int x, .int k, .int a] h = some (.ok (.int (-2003 : Int32)), hthr h)) ∧ (inr 97 99 x = false → CL 190 [.ref 31, .int (1 : Int32), .int x, .int k, .int a] h = some (.ok (.int (-2003 : Int32)), hthr h)) ∧ (inr 97 99 x = false → CL 190 [.ref 31, .int (2 : Int32), .int x, .int k, .int a] h = some (.ok (.int (-2003 : Int32)), hthr h)) ∧ (inr 0 999 k = false → CL 190 [.ref 31, .int (3 : Int32), .int x, .int k, .int a] h = some (.ok (.int (-2003 : Int32)), hthr h)) ∧ (inr 0 999 k = false → CL 190 [.ref 31, .int (5 : Int32), .int x, .int k, .int a] h = some (.ok (.int (-2003 : Int32)), hthr h)) ∧ (two x a = false → CL 190 [.ref 31, .int (6 : Int32), .int x, .int k, .int a] h = some (.ok (.int (-2003 : Int32)), hthr h)) ∧ (inr 97 99 x = true → two x a = false → CL 190 [.ref 31, .int (12 : Int32), .int x, .int k, .int a] h = some (.ok (.int (-2003 : Int32)), hthr h)) :=
  ⟨fun q => ask0_1 K.k8 x k a (am_f K.q x k q), fun q => ask1_1 K.k8 x k a (ka_f K.q x k q), fun q => ask2_1 K.k8 x k a (ol_f K.q x q), fun q => ask3_1 K.k8 x k a (st_f K.q k q), fun q => ask5_1 K.k8 x k a (ac_f K.q k q), fun q => ask6_1 K.k8 x k a (matchingC_f q).1, fun q1 q2 => ask12_1 K.k8 x k a (pp_f K.rr q1 q2)⟩
theorem ask_oc (K : LK N xs h b y) {i : Nat} (hi : kN b ≤ i) (h9 : i < 100000) (x a : Int32) : CL 190 [.ref 31, .int (9 : Int32), .int x, .int (nI i), .int a] h = some (.ok (.int (-2002 : Int32)), hthr h) := by
  refine ask9_3 K.k8 x (nI i) a (repC_f K.q K.rk ?_).2.2.2
  have n12 := K.qv.1
  unfold inN
  have h5 : ¬(nI i < nI (kN b)) := by
    rw [lt_nI (by omega) (by omega)]
    omega
  rw [decide_eq_false h5, Bool.and_false]
theorem ask_am (K : LK N xs h b y) {s k : Nat} (hs : s < 3) (hk : k < 1000) (a : Int32) : An (CL 190 [.ref 31, .int (0 : Int32), .int (nI (97 + s)), .int (nI k), .int a] h) (if 0 < kA b s k then nI (kA b s k) else (-2004 : Int32)) h := by
  by_cases q : 0 < kA b s k
  · rw [if_pos q]
    exact Or.inl (ask0_o K.k8 _ _ a (amountOf_ok K.q K.rk hs hk q))
  · rw [if_neg q]
    exact Or.inr (ask0_4 K.k8 _ _ a (am_n K.q K.rk hs hk (by omega)))
theorem ask_kn (K : LK N xs h b y) {s : Nat} (hs : s < 3) {p : Int32} (hp : inN (numA (kA b) s) p = false) (a : Int32) : CL 190 [.ref 31, .int (1 : Int32), .int (nI (97 + s)), .int p, .int a] h = some (.ok (.int (-2002 : Int32)), hthr h) := by
  have c1 := keyAt_ok K.q K.rk hs p
  rw [ka_no hp] at c1
  exact ask1_3 K.k8 _ _ a c1
theorem ask_ol (K : LK N xs h b y) {s : Nat} (hs : s < 3) (k a : Int32) : An (CL 190 [.ref 31, .int (2 : Int32), .int (nI (97 + s)), .int k, .int a] h) (olv (olA (kA b) (kD b) s 1000)) h := by
  have c1 := oldestKey_ok K.q K.rk hs
  cases q : olA (kA b) (kD b) s 1000 with
  | some k0 =>
    rw [q] at c1
    exact Or.inl (ask2_o K.k8 _ k a c1)
  | none =>
    rw [q] at c1
    exact Or.inr (ask2_4 K.k8 _ k a c1)
theorem ask_st (K : LK N xs h b y) {k : Nat} (hk : k < 1000) (x a : Int32) : An (CL 190 [.ref 31, .int (3 : Int32), .int x, .int (nI k), .int a] h) (if 0 < hoA (kA b) k then nI (stA (kA b) k) else (-2004 : Int32)) h := by
  by_cases q : 0 < hoA (kA b) k
  · rw [if_pos q]
    exact Or.inl (ask3_o K.k8 x _ a (statusOf_ok K.q K.rk hk q))
  · rw [if_neg q]
    exact Or.inr (ask3_4 K.k8 x _ a (st_n K.q K.rk hk (by omega)))
theorem ask_ac (K : LK N xs h b y) {k : Nat} (hk : k < 1000) (x a : Int32) : An (CL 190 [.ref 31, .int (5 : Int32), .int x, .int (nI k), .int a] h) (if 0 < hoA (kA b) k then nI (acA (kA b) k) else (-2004 : Int32)) h := by
  by_cases q : 0 < hoA (kA b) k
  · rw [if_pos q]
    exact Or.inl (ask5_o K.k8 x _ a (acceptedAmount_ok K.q K.rk hk q))
  · rw [if_neg q]
    exact Or.inr (ask5_4 K.k8 x _ a (ac_n K.q K.rk hk (by omega)))
theorem ask_dn (K : LK N xs h b y) {p : Nat} (hp : cwA (kA b) 100 ≤ p) (h9 : p < 100000) (x a : Int32) : CL 190 [.ref 31, .int (4 : Int32), .int x, .int (nI p), .int a] h = some (.ok (.int (-2004 : Int32)), hthr h) := by
  have c1 := disputedAt_ok K.q K.rk (nI p)
  rw [dk_no (fun r e z => by
    have hc := cw_le (kA b) 100
    have e := congrArg Int32.toNatClampNeg e
    rw [cl_nI (by omega), cl_nI (by omega)] at e
    omega) ⟨p, rfl⟩] at c1
  exact ask4_4 K.k8 x _ a c1
/-- the law's own measure: the class as it was, room for so many units -/
def Ls (N : Nat) (xs : Nat → Int32) (b : Bk) (y : Nat) (h g : Hp) (n : Nat) : Prop := LK N xs g b y ∧ Rm h g n (100 * n)
theorem Ls.rf (K : LK N xs h b y) : Ls N xs b y h h 0 := ⟨K, Rm.rf h⟩
theorem Ls.tr {k : Hp} {n m : Nat} (A : Ls N xs b y h g n) (C : Ls N xs b y g k m) : Ls N xs b y h k (n + m) := ⟨C.1, (A.2.tr C.2).up (Nat.le_refl _) (by omega)⟩
theorem Ls.up {n m : Nat} (A : Ls N xs b y h g n) (q : n ≤ m) : Ls N xs b y h g m := ⟨A.1, A.2.up q (by omega)⟩
theorem Ls.th (K : LK N xs h b y) : Ls N xs b y h (hthr h) 1 := ⟨K.th, (Rm.thr h).up (Nat.le_refl _) (by decide)⟩
theorem An.to (K : LK N xs h b y) {r : Res} {v : Int32} (A : An r v h) : ∃ g, r = some (.ok (.int v), g) ∧ Ls N xs b y h g 1 ∧ (g = h ∨ g = hthr h) := by
  rcases A with e | e
  · exact ⟨h, e, (Ls.rf K).up (by decide), Or.inl rfl⟩
  · exact ⟨hthr h, e, Ls.th K, Or.inr rfl⟩
theorem Ls.nq {Z : Nat → Prop} {n : Nat} (K : LK N xs h b y) (A : Nq Z h g n) : Ls N xs b y h g n := ⟨K.nh A, A.1.rm⟩
end LAW11
