/-! THE REFERENCE: conditions, copies, its history -/
def bcF (f : Nat → Nat → Int32) (src a dst c n : Nat) : Nat → Nat → Int32 := fun b x => if b = dst ∧ c ≤ x ∧ x < c + n then f src (a + (x - c)) else f b x
theorem bcF_step (f : Nat → Nat → Int32) {src dst : Nat} (a c n : Nat) (hne : src ≠ dst) : u2 (bcF f src a dst c n) dst (c + n) (bcF f src a dst c n src (a + n)) = bcF f src a dst c (n + 1) := by
  funext b x
  have e1 : bcF f src a dst c n src (a + n) = f src (a + n) := if_neg (fun q => hne q.1)
  rw [e1]
  unfold u2 bcF
  by_cases q : b = dst ∧ x = c + n
  · obtain ⟨rfl, rfl⟩ := q
    rw [if_pos ⟨rfl, rfl⟩, if_pos ⟨rfl, by omega, by omega⟩]
    congr 1
    omega
  · rw [if_neg q]
    by_cases q2 : b = dst ∧ c ≤ x ∧ x < c + n
    · rw [if_pos q2, if_pos ⟨q2.1, q2.2.1, by omega⟩]
    · rw [if_neg q2, if_neg (fun q3 => by
        by_cases q4 : x = c + n
        · exact q ⟨q3.1, q4⟩
        · exact q2 ⟨q3.1, q3.2.1, by omega⟩)]
theorem bcF_t {f : Nat → Nat → Int32} {src a dst c n x : Nat} (hx : x < n) : bcF f src a dst c n dst (c + x) = f src (a + x) := by
  unfold bcF
  rw [if_pos ⟨rfl, by omega, by omega⟩]
  congr 1
  omega
theorem bcF_o {f : Nat → Nat → Int32} {src a dst c n b : Nat} (hb : b ≠ dst) (x : Nat) : bcF f src a dst c n b x = f b x := if_neg (fun q => hb q.1)
theorem bcF_x {f : Nat → Nat → Int32} {src a dst c n x : Nat} (hx : x < c ∨ c + n ≤ x) : bcF f src a dst c n dst x = f dst x := if_neg (by omega)
section CD
variable {h : Hp}
theorem copies_ok {src dst a c la lc : Nat} (h1 : HK h src = 100 ∧ HL h src = la) (h2 : HK h dst = 100 ∧ HL h dst = lc) (hne : src ≠ dst) (ha : a + 169 ≤ la) (hc : c + 169 ≤ lc) (hla : la < 100000) (hlc : lc < 100000) : CL 204 [.ref src, .int (nI a), .ref dst, .int (nI c)] h = some (.ok .null, wI h (bcF (HI h) src a dst c 169)) := by
  rw [e204]
  simp only [lz0]
  have e0 : bcF (HI h) src a dst c 0 = HI h := by
    funext b x
    exact if_neg (by omega)
  refine (congrArg (fun q => RF 204 3 [.ref src, .int (nI a), .ref dst, .int (nI c), .int (nI 0)] [] (wI h q)) e0.symm).trans ?_
  refine (lpUp (F := fun n => RF 204 3 [.ref src, .int (nI a), .ref dst, .int (nI c), .int (nI n)] [] (wI h (bcF (HI h) src a dst c n))) (Nat.zero_le 169) (fun n _ hn => ?_)).trans ?_
  · have c1 := chI_nI h1.1 h1.2 (show a + n < la by omega) (by omega)
    have c2 := chI_nI h2.1 h2.2 (show c + n < lc by omega) (by omega)
    rw [e204_3]
    simp (disch := omega) only [hn, c1, c2, bcF_step (HI h) a c n hne, cond_true, cond_false, bI_ok, bI_er, bV_ok, bV_er, bR_ok, bR_er, bD_ok, bD_er, bF_ok, bF_er, thr_ap, cl_nI, lt_nI, le_nI, eq_nI, m1_lt, nI_m1, m1_nI, nI_lt_m1, add_nI, sub_nI, addm_nI, z_addm, z_subm, mul_nI, fit1_0, fit1_1, fit2_n, HI_wI, HK_wI, HL_wI, HR_wI, ckK_wI, chI_wI, sI_wI, wI_wI, lz0, lz1, lz2, lz3, lz4, lz5, lz6, lz7, lz8, lz9, lz10, lz12, lz13, lz16, lz17, lz20, lz21, lz23, lz26, lz30, lz32, lz35, lz40, lz45, lz48, lz57, lz58, lz59, lz60, lz61, lz63, lz64, lz97, lz99, lz100, lz110, lz111, lz126, lz129, lz132, lz133, lz166, lz169, lz255, lz999, lz1183, lz1800, Nat.reduceAdd, Nat.reduceLT, Nat.reduceEqDiff, Nat.not_lt_zero, Nat.lt_irrefl, ↓reduceIte, Nat.zero_add, Nat.add_zero, ne_eq, not_true_eq_false, not_false_eq_true, reduceCtorEq]
  · rw [e204_3]
    simp (disch := omega) only [cond_true, cond_false, bI_ok, bI_er, bV_ok, bV_er, bR_ok, bR_er, bD_ok, bD_er, bF_ok, bF_er, thr_ap, cl_nI, lt_nI, le_nI, eq_nI, m1_lt, nI_m1, m1_nI, nI_lt_m1, add_nI, sub_nI, addm_nI, z_addm, z_subm, mul_nI, fit1_0, fit1_1, fit2_n, HI_wI, HK_wI, HL_wI, HR_wI, ckK_wI, chI_wI, sI_wI, wI_wI, lz0, lz1, lz2, lz3, lz4, lz5, lz6, lz7, lz8, lz9, lz10, lz12, lz13, lz16, lz17, lz20, lz21, lz23, lz26, lz30, lz32, lz35, lz40, lz45, lz48, lz57, lz58, lz59, lz60, lz61, lz63, lz64, lz97, lz99, lz100, lz110, lz111, lz126, lz129, lz132, lz133, lz166, lz169, lz255, lz999, lz1183, lz1800, Nat.reduceAdd, Nat.reduceLT, Nat.reduceEqDiff, Nat.not_lt_zero, Nat.lt_irrefl, ↓reduceIte, Nat.zero_add, Nat.add_zero, ne_eq, not_true_eq_false, not_false_eq_true, reduceCtorEq]
theorem isIn_ok (x : Int32) {lo hi : Nat} (hl : lo < 2147483648) (hh : hi < 2147483648) : CL 206 [.int x, .int (nI lo), .int (nI hi)] h = some (.ok (.int (nI (b2n (inr lo hi x)))), h) := by
  rw [e206]
  cases hx : inr lo hi x with
  | false => rcases inr_f hx with h1 | ⟨h1, h2⟩ <;> simp only [*, b2f, cond_true, cond_false, bI_ok, bI_er, bV_ok, bV_er, bR_ok, bR_er, bD_ok, bD_er, bF_ok, bF_er, thr_ap, cl_nI, lt_nI, le_nI, eq_nI, m1_lt, nI_m1, m1_nI, nI_lt_m1, add_nI, sub_nI, addm_nI, z_addm, z_subm, mul_nI, fit1_0, fit1_1, fit2_n, HI_wI, HK_wI, HL_wI, HR_wI, ckK_wI, chI_wI, sI_wI, wI_wI, lz0, lz1, lz2, lz3, lz4, lz5, lz6, lz7, lz8, lz9, lz10, lz12, lz13, lz16, lz17, lz20, lz21, lz23, lz26, lz30, lz32, lz35, lz40, lz45, lz48, lz57, lz58, lz59, lz60, lz61, lz63, lz64, lz97, lz99, lz100, lz110, lz111, lz126, lz129, lz132, lz133, lz166, lz169, lz255, lz999, lz1183, lz1800, Nat.reduceAdd, Nat.reduceLT, Nat.reduceEqDiff, Nat.not_lt_zero, Nat.lt_irrefl, ↓reduceIte, Nat.zero_add, Nat.add_zero, ne_eq, not_true_eq_false, not_false_eq_true, reduceCtorEq]
  | true =>
    obtain ⟨j, h1, h2, rfl⟩ := inr_t hl hh hx
    have q1 : ¬(j < lo) := by omega
    have q2 : ¬(hi < j) := by omega
    simp (disch := omega) only [q1, q2, b2t, cond_true, cond_false, bI_ok, bI_er, bV_ok, bV_er, bR_ok, bR_er, bD_ok, bD_er, bF_ok, bF_er, thr_ap, cl_nI, lt_nI, le_nI, eq_nI, m1_lt, nI_m1, m1_nI, nI_lt_m1, add_nI, sub_nI, addm_nI, z_addm, z_subm, mul_nI, fit1_0, fit1_1, fit2_n, HI_wI, HK_wI, HL_wI, HR_wI, ckK_wI, chI_wI, sI_wI, wI_wI, lz0, lz1, lz2, lz3, lz4, lz5, lz6, lz7, lz8, lz9, lz10, lz12, lz13, lz16, lz17, lz20, lz21, lz23, lz26, lz30, lz32, lz35, lz40, lz45, lz48, lz57, lz58, lz59, lz60, lz61, lz63, lz64, lz97, lz99, lz100, lz110, lz111, lz126, lz129, lz132, lz133, lz166, lz169, lz255, lz999, lz1183, lz1800, Nat.reduceAdd, Nat.reduceLT, Nat.reduceEqDiff, Nat.not_lt_zero, Nat.lt_irrefl, ↓reduceIte, Nat.zero_add, Nat.add_zero, ne_eq, not_true_eq_false, not_false_eq_true, reduceCtorEq]
theorem isSource_ok (x : Int32) : CL 207 [.int x] h = some (.ok (.int (nI (b2n (inr 97 99 x)))), h) := by
  have := isIn_ok (h := h) x (lo := 97) (hi := 99) (by decide) (by decide)
  rw [e207]
  rw [show CL 206 [.int x, .int (97 : Int32), .int (99 : Int32)] h = _ from this]
  cases inr 97 99 x <;> rfl
theorem isKeyM_ok (x : Int32) : CL 208 [.int x] h = some (.ok (.int (nI (b2n (inr 0 999 x)))), h) := by
  have := isIn_ok (h := h) x (lo := 0) (hi := 999) (by decide) (by decide)
  rw [e208]
  rw [show CL 206 [.int x, .int (0 : Int32), .int (999 : Int32)] h = _ from this]
  cases inr 0 999 x <;> rfl
theorem isReport_ok (x y z : Int32) : CL 209 [.int x, .int y, .int z] h = some (.ok (.int (nI (b2n (inr 97 99 x && inr 0 999 y && inr 1 99 z)))), h) := by
  have h1 := isSource_ok (h := h) x
  have h2 := isKeyM_ok (h := h) y
  have h3 : CL 206 [.int z, .int (1 : Int32), .int (99 : Int32)] h = _ := isIn_ok (h := h) z (lo := 1) (hi := 99) (by decide) (by decide)
  rw [e209, h1]
  cases inr 97 99 x with
  | false => rfl
  | true =>
    simp only [b2t, cond_true, cond_false, bI_ok, bI_er, bV_ok, bV_er, bR_ok, bR_er, bD_ok, bD_er, bF_ok, bF_er, thr_ap, cl_nI, lt_nI, le_nI, eq_nI, m1_lt, nI_m1, m1_nI, nI_lt_m1, add_nI, sub_nI, addm_nI, z_addm, z_subm, mul_nI, fit1_0, fit1_1, fit2_n, HI_wI, HK_wI, HL_wI, HR_wI, ckK_wI, chI_wI, sI_wI, wI_wI, lz0, lz1, lz2, lz3, lz4, lz5, lz6, lz7, lz8, lz9, lz10, lz12, lz13, lz16, lz17, lz20, lz21, lz23, lz26, lz30, lz32, lz35, lz40, lz45, lz48, lz57, lz58, lz59, lz60, lz61, lz63, lz64, lz97, lz99, lz100, lz110, lz111, lz126, lz129, lz132, lz133, lz166, lz169, lz255, lz999, lz1183, lz1800, Nat.reduceAdd, Nat.reduceLT, Nat.reduceEqDiff, Nat.not_lt_zero, Nat.lt_irrefl, ↓reduceIte, Nat.zero_add, Nat.add_zero, ne_eq, not_true_eq_false, not_false_eq_true, reduceCtorEq]
    rw [h2]
    cases inr 0 999 y with
    | false => rfl
    | true =>
      simp only [b2t, cond_true, cond_false, bI_ok, bI_er, bV_ok, bV_er, bR_ok, bR_er, bD_ok, bD_er, bF_ok, bF_er, thr_ap, cl_nI, lt_nI, le_nI, eq_nI, m1_lt, nI_m1, m1_nI, nI_lt_m1, add_nI, sub_nI, addm_nI, z_addm, z_subm, mul_nI, fit1_0, fit1_1, fit2_n, HI_wI, HK_wI, HL_wI, HR_wI, ckK_wI, chI_wI, sI_wI, wI_wI, lz0, lz1, lz2, lz3, lz4, lz5, lz6, lz7, lz8, lz9, lz10, lz12, lz13, lz16, lz17, lz20, lz21, lz23, lz26, lz30, lz32, lz35, lz40, lz45, lz48, lz57, lz58, lz59, lz60, lz61, lz63, lz64, lz97, lz99, lz100, lz110, lz111, lz126, lz129, lz132, lz133, lz166, lz169, lz255, lz999, lz1183, lz1800, Nat.reduceAdd, Nat.reduceLT, Nat.reduceEqDiff, Nat.not_lt_zero, Nat.lt_irrefl, ↓reduceIte, Nat.zero_add, Nat.add_zero, ne_eq, not_true_eq_false, not_false_eq_true, reduceCtorEq]
      simp only [lz1, lz99] at h3
      rw [h3]
      cases inr 1 99 z <;> rfl
def thN (p q r : Bool) : Nat := if p then (if q then (if r then 0 else 3) else 2) else 1
theorem holds_ok (S : MdS h) (p q r : Bool) : CL 210 [.ref 241, .int (nI (b2n p)), .int (nI (b2n q)), .int (nI (b2n r))] h = some (.ok (.int (nI (b2n (decide (thN p q r = 0))))), wI h (u2 (HI h) 241 16 (nI (thN p q r)))) := by
  rw [e210]
  cases p <;> cases q <;> cases r <;> simp (disch := omega) only [S.f, b2t, b2f, w2_eq, thN, Bool.false_eq_true, decide_true, decide_false, cond_true, cond_false, bI_ok, bI_er, bV_ok, bV_er, bR_ok, bR_er, bD_ok, bD_er, bF_ok, bF_er, thr_ap, cl_nI, lt_nI, le_nI, eq_nI, m1_lt, nI_m1, m1_nI, nI_lt_m1, add_nI, sub_nI, addm_nI, z_addm, z_subm, mul_nI, fit1_0, fit1_1, fit2_n, HI_wI, HK_wI, HL_wI, HR_wI, ckK_wI, chI_wI, sI_wI, wI_wI, lz0, lz1, lz2, lz3, lz4, lz5, lz6, lz7, lz8, lz9, lz10, lz12, lz13, lz16, lz17, lz20, lz21, lz23, lz26, lz30, lz32, lz35, lz40, lz45, lz48, lz57, lz58, lz59, lz60, lz61, lz63, lz64, lz97, lz99, lz100, lz110, lz111, lz126, lz129, lz132, lz133, lz166, lz169, lz255, lz999, lz1183, lz1800, Nat.reduceAdd, Nat.reduceLT, Nat.reduceEqDiff, Nat.not_lt_zero, Nat.lt_irrefl, ↓reduceIte, Nat.zero_add, Nat.add_zero, ne_eq, not_true_eq_false, not_false_eq_true, reduceCtorEq]
theorem goes_ok (S : MdS h) (p : Bool) : CL 225 [.ref 241, .int (nI (b2n p))] h = some (.ok (.int (nI (b2n p))), wI h (u2 (HI h) 241 16 (nI (thN p true true)))) := by
  have := holds_ok S p true true
  rw [b2t] at this
  rw [e225]
  simp only [lz1, S.f, this, cond_true, bI_ok]
  cases p <;> rfl
end CD
