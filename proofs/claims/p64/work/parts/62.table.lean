/-! THE KEY TABLE: its shape and its reads -/
def TbS (h : Hp) (t : Nat) : Prop := HK h t = 5 ∧ HR h t 0 = t + 1 ∧ HR h t 1 = t + 2 ∧ HR h t 2 = t + 6 ∧ (HK h (t + 1) = 100 ∧ HL h (t + 1) = 30) ∧ (HK h (t + 2) = 106 ∧ HL h (t + 2) = 3) ∧ (HK h (t + 6) = 106 ∧ HL h (t + 6) = 3) ∧ ∀ s, s < 3 → HR h (t + 2) s = t + 3 + s ∧ HR h (t + 6) s = t + 7 + s ∧ (HK h (t + 3 + s) = 100 ∧ HL h (t + 3 + s) = 30) ∧ (HK h (t + 7 + s) = 100 ∧ HL h (t + 7 + s) = 30)
def tn (h : Nat → Nat → Int32) (t : Nat) : Nat := rd h t 3
def tm (h : Nat → Nat → Int32) (t : Nat) : Nat := rd h t 4
def tk (h : Nat → Nat → Int32) (t r : Nat) : Nat := rd h (t + 1) r
def ta (h : Nat → Nat → Int32) (t s r : Nat) : Nat := rd h (t + 3 + s) r
def td (h : Nat → Nat → Int32) (t s r : Nat) : Nat := rd h (t + 7 + s) r
/-- its cells hold numbers -/
def TbN (h : Nat → Nat → Int32) (t : Nat) : Prop := nn h t 3 31 ∧ nn h t 4 31 ∧ (∀ r, r < 30 → nn h (t + 1) r 1000) ∧ (∀ s, s < 3 → ∀ r, r < 30 → nn h (t + 3 + s) r 100) ∧ ∀ s, s < 3 → ∀ r, r < 30 → nn h (t + 7 + s) r 1073741824
section TB
variable {h : Hp} {t : Nat}
theorem TbS.f (S : TbS h t) : ckK h t 5 = true ∧ HR h t 0 = t + 1 ∧ HR h t 1 = t + 2 ∧ HR h t 2 = t + 6 := ⟨ck_of S.1, S.2.1, S.2.2.1, S.2.2.2.1⟩
theorem TbS.ky (S : TbS h t) {r : Nat} (hr : r < 30) : chI h (t + 1) 100 (nI r) = true := chI_nI S.2.2.2.2.1.1 S.2.2.2.2.1.2 hr (by decide)
theorem TbS.s (S : TbS h t) {s : Nat} (hs : s < 3) : ((Nat.beq (HK h (t + 2)) 106 || Nat.beq (HK h (t + 2)) 107) && inb (nI s) (HL h (t + 2))) = true ∧ ((Nat.beq (HK h (t + 6)) 106 || Nat.beq (HK h (t + 6)) 107) && inb (nI s) (HL h (t + 6))) = true ∧ HR h (t + 2) s = t + 3 + s ∧ HR h (t + 6) s = t + 7 + s := ⟨aa_of S.2.2.2.2.2.1.1 S.2.2.2.2.2.1.2 hs (by decide), aa_of S.2.2.2.2.2.2.1.1 S.2.2.2.2.2.2.1.2 hs (by decide), (S.2.2.2.2.2.2.2 s hs).1, (S.2.2.2.2.2.2.2 s hs).2.1⟩
theorem TbS.sr (S : TbS h t) {s r : Nat} (hs : s < 3) (hr : r < 30) : chI h (t + 3 + s) 100 (nI r) = true ∧ chI h (t + 7 + s) 100 (nI r) = true := ⟨chI_nI (S.2.2.2.2.2.2.2 s hs).2.2.1.1 (S.2.2.2.2.2.2.2 s hs).2.2.1.2 hr (by decide), chI_nI (S.2.2.2.2.2.2.2 s hs).2.2.2.1 (S.2.2.2.2.2.2.2 s hs).2.2.2.2 hr (by decide)⟩
theorem TbN.n {h : Nat → Nat → Int32} (N : TbN h t) : h t 3 = nI (tn h t) := N.1.eq (by decide)
theorem TbN.n30 {h : Nat → Nat → Int32} (N : TbN h t) : tn h t < 31 := N.1.lt (by decide)
theorem TbN.m {h : Nat → Nat → Int32} (N : TbN h t) : h t 4 = nI (tm h t) := N.2.1.eq (by decide)
theorem TbN.m30 {h : Nat → Nat → Int32} (N : TbN h t) : tm h t < 31 := N.2.1.lt (by decide)
theorem TbN.k {h : Nat → Nat → Int32} (N : TbN h t) {r : Nat} (hr : r < 30) : h (t + 1) r = nI (tk h t r) := (N.2.2.1 r hr).eq (by decide)
theorem TbN.k9 {h : Nat → Nat → Int32} (N : TbN h t) {r : Nat} (hr : r < 30) : tk h t r < 1000 := (N.2.2.1 r hr).lt (by decide)
theorem TbN.a {h : Nat → Nat → Int32} (N : TbN h t) {s r : Nat} (hs : s < 3) (hr : r < 30) : h (t + 3 + s) r = nI (ta h t s r) := (N.2.2.2.1 s hs r hr).eq (by decide)
theorem TbN.a9 {h : Nat → Nat → Int32} (N : TbN h t) {s r : Nat} (hs : s < 3) (hr : r < 30) : ta h t s r < 100 := (N.2.2.2.1 s hs r hr).lt (by decide)
theorem TbN.d {h : Nat → Nat → Int32} (N : TbN h t) {s r : Nat} (hs : s < 3) (hr : r < 30) : h (t + 7 + s) r = nI (td h t s r) := (N.2.2.2.2 s hs r hr).eq (by decide)
theorem TbN.d9 {h : Nat → Nat → Int32} (N : TbN h t) {s r : Nat} (hs : s < 3) (hr : r < 30) : td h t s r < 1073741824 := (N.2.2.2.2 s hs r hr).lt (by decide)
/-- the row of a key -/
def rw? (h : Nat → Nat → Int32) (t k : Nat) : Option Nat := fst? (fun r => decide (tk h t r = k)) (tn h t)
theorem rowOf_ok (S : TbS h t) (N : TbN (HI h) t) {k : Nat} (hk : k < 1000) : CL 12 [.ref t, .int (nI k)] h = some (.ok (.int (oI (rw? (HI h) t k))), h) := by
  have hn := N.n30
  rw [e12, lz0]
  refine (lpFst (F := fun i => RF 12 2 [.ref t, .int (nI k), .int (nI i)] [] h) (p := fun r => decide (tk (HI h) t r = k)) (n := tn (HI h) t) (found := fun i => some (.ok (.int (nI i)), h)) (dflt := some (.ok (.int (-1)), h)) (fun i hi => ?_) ?_).trans ?_
  · have hk9 := N.k9 (r := i) (by omega)
    rw [e12_2]
    simp (disch := omega) only [S.f, N.n, S.ky (show i < 30 by omega), N.k (show i < 30 by omega), hi, decide_eq_true_eq, cond_true, cond_false, bI_ok, bI_er, bV_ok, bV_er, bR_ok, bR_er, bD_ok, bD_er, bF_ok, bF_er, thr_ap, cl_nI, lt_nI, le_nI, eq_nI, m1_lt, nI_m1, m1_nI, nI_lt_m1, add_nI, sub_nI, addm_nI, z_addm, z_subm, mul_nI, fit1_0, fit1_1, fit2_n, HI_wI, HK_wI, HL_wI, HR_wI, ckK_wI, chI_wI, sI_wI, wI_wI, lz0, lz1, lz2, lz3, lz4, lz5, lz6, lz7, lz8, lz9, lz10, lz12, lz13, lz16, lz17, lz20, lz21, lz23, lz26, lz30, lz32, lz35, lz40, lz45, lz48, lz57, lz58, lz59, lz60, lz61, lz63, lz64, lz97, lz99, lz100, lz110, lz111, lz126, lz129, lz132, lz133, lz166, lz169, lz255, lz999, lz1183, lz1800, Nat.reduceAdd, Nat.reduceLT, Nat.reduceEqDiff, Nat.not_lt_zero, Nat.lt_irrefl, ↓reduceIte, Nat.zero_add, Nat.add_zero, ne_eq, not_true_eq_false, not_false_eq_true, reduceCtorEq]
  · rw [e12_2]
    simp (disch := omega) only [S.f, N.n, cond_true, cond_false, bI_ok, bI_er, bV_ok, bV_er, bR_ok, bR_er, bD_ok, bD_er, bF_ok, bF_er, thr_ap, cl_nI, lt_nI, le_nI, eq_nI, m1_lt, nI_m1, m1_nI, nI_lt_m1, add_nI, sub_nI, addm_nI, z_addm, z_subm, mul_nI, fit1_0, fit1_1, fit2_n, HI_wI, HK_wI, HL_wI, HR_wI, ckK_wI, chI_wI, sI_wI, wI_wI, lz0, lz1, lz2, lz3, lz4, lz5, lz6, lz7, lz8, lz9, lz10, lz12, lz13, lz16, lz17, lz20, lz21, lz23, lz26, lz30, lz32, lz35, lz40, lz45, lz48, lz57, lz58, lz59, lz60, lz61, lz63, lz64, lz97, lz99, lz100, lz110, lz111, lz126, lz129, lz132, lz133, lz166, lz169, lz255, lz999, lz1183, lz1800, Nat.reduceAdd, Nat.reduceLT, Nat.reduceEqDiff, Nat.not_lt_zero, Nat.lt_irrefl, ↓reduceIte, Nat.zero_add, Nat.add_zero, ne_eq, not_true_eq_false, not_false_eq_true, reduceCtorEq]
  · unfold rw?
    cases fst? (fun r => decide (tk (HI h) t r = k)) (tn (HI h) t) <;> rfl
/-- a row is one of those in use -/
theorem rw_lt {h : Nat → Nat → Int32} {k r : Nat} (hr : rw? h t k = some r) : r < tn h t ∧ tk h t r = k := by
  obtain ⟨h1, h2, h3⟩ := fst_some.mp hr
  exact ⟨h1, of_decide_eq_true h2⟩
/-- the row of a source's record -/
def rr? (h : Nat → Nat → Int32) (t s k : Nat) : Option Nat := match rw? h t k with
  | some r => if ta h t s r = 0 then none else some r
  | none => none
theorem rowOfRecord_ok (S : TbS h t) (N : TbN (HI h) t) {s k : Nat} (hs : s < 3) (hk : k < 1000) : CL 20 [.ref t, .int (nI s), .int (nI k)] h = some (.ok (.int (oI (rr? (HI h) t s k))), h) := by
  have hn := N.n30
  rw [e20, rowOf_ok S N hk]
  unfold rr?
  cases hr : rw? (HI h) t k with
  | none => simp only [S.f, oI, cond_true, cond_false, bI_ok, bI_er, bV_ok, bV_er, bR_ok, bR_er, bD_ok, bD_er, bF_ok, bF_er, thr_ap, cl_nI, lt_nI, le_nI, eq_nI, m1_lt, nI_m1, m1_nI, nI_lt_m1, add_nI, sub_nI, addm_nI, z_addm, z_subm, mul_nI, fit1_0, fit1_1, fit2_n, HI_wI, HK_wI, HL_wI, HR_wI, ckK_wI, chI_wI, sI_wI, wI_wI, lz0, lz1, lz2, lz3, lz4, lz5, lz6, lz7, lz8, lz9, lz10, lz12, lz13, lz16, lz17, lz20, lz21, lz23, lz26, lz30, lz32, lz35, lz40, lz45, lz48, lz57, lz58, lz59, lz60, lz61, lz63, lz64, lz97, lz99, lz100, lz110, lz111, lz126, lz129, lz132, lz133, lz166, lz169, lz255, lz999, lz1183, lz1800, Nat.reduceAdd, Nat.reduceLT, Nat.reduceEqDiff, Nat.not_lt_zero, Nat.lt_irrefl, ↓reduceIte, Nat.zero_add, Nat.add_zero, ne_eq, not_true_eq_false, not_false_eq_true, reduceCtorEq]
  | some r =>
    have hr30 := (rw_lt hr).1
    have ha := N.a9 hs (show r < 30 by omega)
    simp (disch := omega) only [oI, S.f, S.s hs, S.sr hs (show r < 30 by omega), N.a hs (show r < 30 by omega), cond_true, cond_false, bI_ok, bI_er, bV_ok, bV_er, bR_ok, bR_er, bD_ok, bD_er, bF_ok, bF_er, thr_ap, cl_nI, lt_nI, le_nI, eq_nI, m1_lt, nI_m1, m1_nI, nI_lt_m1, add_nI, sub_nI, addm_nI, z_addm, z_subm, mul_nI, fit1_0, fit1_1, fit2_n, HI_wI, HK_wI, HL_wI, HR_wI, ckK_wI, chI_wI, sI_wI, wI_wI, lz0, lz1, lz2, lz3, lz4, lz5, lz6, lz7, lz8, lz9, lz10, lz12, lz13, lz16, lz17, lz20, lz21, lz23, lz26, lz30, lz32, lz35, lz40, lz45, lz48, lz57, lz58, lz59, lz60, lz61, lz63, lz64, lz97, lz99, lz100, lz110, lz111, lz126, lz129, lz132, lz133, lz166, lz169, lz255, lz999, lz1183, lz1800, Nat.reduceAdd, Nat.reduceLT, Nat.reduceEqDiff, Nat.not_lt_zero, Nat.lt_irrefl, ↓reduceIte, Nat.zero_add, Nat.add_zero, ne_eq, not_true_eq_false, not_false_eq_true, reduceCtorEq]
    by_cases hz : ta (HI h) t s r = 0
    · rw [if_neg (by omega), if_pos hz]
    · rw [if_pos (by omega), if_neg hz]
theorem amountFor_ok (S : TbS h t) (N : TbN (HI h) t) {s k : Nat} (hs : s < 3) (hk : k < 1000) : CL 26 [.ref t, .int (nI s), .int (nI k)] h = some (.ok (.int (nI (match rw? (HI h) t k with
    | some r => ta (HI h) t s r
    | none => 0))), h) := by
  have hn := N.n30
  rw [e26, rowOf_ok S N hk]
  cases hr : rw? (HI h) t k with
  | none => simp only [S.f, oI, cond_true, cond_false, bI_ok, bI_er, bV_ok, bV_er, bR_ok, bR_er, bD_ok, bD_er, bF_ok, bF_er, thr_ap, cl_nI, lt_nI, le_nI, eq_nI, m1_lt, nI_m1, m1_nI, nI_lt_m1, add_nI, sub_nI, addm_nI, z_addm, z_subm, mul_nI, fit1_0, fit1_1, fit2_n, HI_wI, HK_wI, HL_wI, HR_wI, ckK_wI, chI_wI, sI_wI, wI_wI, lz0, lz1, lz2, lz3, lz4, lz5, lz6, lz7, lz8, lz9, lz10, lz12, lz13, lz16, lz17, lz20, lz21, lz23, lz26, lz30, lz32, lz35, lz40, lz45, lz48, lz57, lz58, lz59, lz60, lz61, lz63, lz64, lz97, lz99, lz100, lz110, lz111, lz126, lz129, lz132, lz133, lz166, lz169, lz255, lz999, lz1183, lz1800, Nat.reduceAdd, Nat.reduceLT, Nat.reduceEqDiff, Nat.not_lt_zero, Nat.lt_irrefl, ↓reduceIte, Nat.zero_add, Nat.add_zero, ne_eq, not_true_eq_false, not_false_eq_true, reduceCtorEq]
  | some r =>
    have hr30 := (rw_lt hr).1
    have ha := N.a9 hs (show r < 30 by omega)
    simp (disch := omega) only [oI, S.f, S.s hs, S.sr hs (show r < 30 by omega), N.a hs (show r < 30 by omega), cond_true, cond_false, bI_ok, bI_er, bV_ok, bV_er, bR_ok, bR_er, bD_ok, bD_er, bF_ok, bF_er, thr_ap, cl_nI, lt_nI, le_nI, eq_nI, m1_lt, nI_m1, m1_nI, nI_lt_m1, add_nI, sub_nI, addm_nI, z_addm, z_subm, mul_nI, fit1_0, fit1_1, fit2_n, HI_wI, HK_wI, HL_wI, HR_wI, ckK_wI, chI_wI, sI_wI, wI_wI, lz0, lz1, lz2, lz3, lz4, lz5, lz6, lz7, lz8, lz9, lz10, lz12, lz13, lz16, lz17, lz20, lz21, lz23, lz26, lz30, lz32, lz35, lz40, lz45, lz48, lz57, lz58, lz59, lz60, lz61, lz63, lz64, lz97, lz99, lz100, lz110, lz111, lz126, lz129, lz132, lz133, lz166, lz169, lz255, lz999, lz1183, lz1800, Nat.reduceAdd, Nat.reduceLT, Nat.reduceEqDiff, Nat.not_lt_zero, Nat.lt_irrefl, ↓reduceIte, Nat.zero_add, Nat.add_zero, ne_eq, not_true_eq_false, not_false_eq_true, reduceCtorEq]
theorem votesFor_ok (S : TbS h t) (N : TbN (HI h) t) {a r : Nat} (ha : a < 100) (hr : r < 30) : CL 14 [.ref t, .int (nI a), .int (nI r)] h = some (.ok (.int (nI (sumN (fun s => b2n (decide (ta (HI h) t s r = a))) 3))), h) := by
  rw [e14]
  simp only [lz0]
  refine (lpUp (F := fun i => RF 14 5 [.ref t, .int (nI a), .int (nI r), .int (nI (sumN (fun s => b2n (decide (ta (HI h) t s r = a))) i)), .int (nI i)] [] h) (Nat.zero_le 3) (fun s _ hs => ?_)).trans ?_
  · have ha9 := N.a9 hs hr
    rw [e14_5]
    simp (disch := omega) only [S.f, S.s hs, S.sr hs hr, N.a hs hr, hs, sumN, cond_true, cond_false, bI_ok, bI_er, bV_ok, bV_er, bR_ok, bR_er, bD_ok, bD_er, bF_ok, bF_er, thr_ap, cl_nI, lt_nI, le_nI, eq_nI, m1_lt, nI_m1, m1_nI, nI_lt_m1, add_nI, sub_nI, addm_nI, z_addm, z_subm, mul_nI, fit1_0, fit1_1, fit2_n, HI_wI, HK_wI, HL_wI, HR_wI, ckK_wI, chI_wI, sI_wI, wI_wI, lz0, lz1, lz2, lz3, lz4, lz5, lz6, lz7, lz8, lz9, lz10, lz12, lz13, lz16, lz17, lz20, lz21, lz23, lz26, lz30, lz32, lz35, lz40, lz45, lz48, lz57, lz58, lz59, lz60, lz61, lz63, lz64, lz97, lz99, lz100, lz110, lz111, lz126, lz129, lz132, lz133, lz166, lz169, lz255, lz999, lz1183, lz1800, Nat.reduceAdd, Nat.reduceLT, Nat.reduceEqDiff, Nat.not_lt_zero, Nat.lt_irrefl, ↓reduceIte, Nat.zero_add, Nat.add_zero, ne_eq, not_true_eq_false, not_false_eq_true, reduceCtorEq]
    by_cases hz : ta (HI h) t s r = a
    · simp only [hz, if_true, decide_true, b2n]
    · simp only [hz, if_false, decide_false, b2n, Nat.add_zero, Bool.false_eq_true]
  · skip
    rw [e14_5]
    simp (disch := omega) only [cond_true, cond_false, bI_ok, bI_er, bV_ok, bV_er, bR_ok, bR_er, bD_ok, bD_er, bF_ok, bF_er, thr_ap, cl_nI, lt_nI, le_nI, eq_nI, m1_lt, nI_m1, m1_nI, nI_lt_m1, add_nI, sub_nI, addm_nI, z_addm, z_subm, mul_nI, fit1_0, fit1_1, fit2_n, HI_wI, HK_wI, HL_wI, HR_wI, ckK_wI, chI_wI, sI_wI, wI_wI, lz0, lz1, lz2, lz3, lz4, lz5, lz6, lz7, lz8, lz9, lz10, lz12, lz13, lz16, lz17, lz20, lz21, lz23, lz26, lz30, lz32, lz35, lz40, lz45, lz48, lz57, lz58, lz59, lz60, lz61, lz63, lz64, lz97, lz99, lz100, lz110, lz111, lz126, lz129, lz132, lz133, lz166, lz169, lz255, lz999, lz1183, lz1800, Nat.reduceAdd, Nat.reduceLT, Nat.reduceEqDiff, Nat.not_lt_zero, Nat.lt_irrefl, ↓reduceIte, Nat.zero_add, Nat.add_zero, ne_eq, not_true_eq_false, not_false_eq_true, reduceCtorEq]
theorem holdersAt_ok (S : TbS h t) (N : TbN (HI h) t) {r : Nat} (hr : r < 30) : CL 32 [.ref t, .int (nI r)] h = some (.ok (.int (nI (sumN (fun s => b2n (decide (0 < ta (HI h) t s r))) 3))), h) := by
  rw [e32]
  simp only [lz0]
  refine (lpUp (F := fun i => RF 32 4 [.ref t, .int (nI r), .int (nI (sumN (fun s => b2n (decide (0 < ta (HI h) t s r))) i)), .int (nI i)] [] h) (Nat.zero_le 3) (fun s _ hs => ?_)).trans ?_
  · have ha9 := N.a9 hs hr
    rw [e32_4]
    simp (disch := omega) only [S.f, S.s hs, S.sr hs hr, N.a hs hr, hs, sumN, cond_true, cond_false, bI_ok, bI_er, bV_ok, bV_er, bR_ok, bR_er, bD_ok, bD_er, bF_ok, bF_er, thr_ap, cl_nI, lt_nI, le_nI, eq_nI, m1_lt, nI_m1, m1_nI, nI_lt_m1, add_nI, sub_nI, addm_nI, z_addm, z_subm, mul_nI, fit1_0, fit1_1, fit2_n, HI_wI, HK_wI, HL_wI, HR_wI, ckK_wI, chI_wI, sI_wI, wI_wI, lz0, lz1, lz2, lz3, lz4, lz5, lz6, lz7, lz8, lz9, lz10, lz12, lz13, lz16, lz17, lz20, lz21, lz23, lz26, lz30, lz32, lz35, lz40, lz45, lz48, lz57, lz58, lz59, lz60, lz61, lz63, lz64, lz97, lz99, lz100, lz110, lz111, lz126, lz129, lz132, lz133, lz166, lz169, lz255, lz999, lz1183, lz1800, Nat.reduceAdd, Nat.reduceLT, Nat.reduceEqDiff, Nat.not_lt_zero, Nat.lt_irrefl, ↓reduceIte, Nat.zero_add, Nat.add_zero, ne_eq, not_true_eq_false, not_false_eq_true, reduceCtorEq]
    by_cases hz : 0 < ta (HI h) t s r
    · simp only [hz, if_true, decide_true, b2n]
    · simp only [hz, if_false, decide_false, b2n, Nat.add_zero, Bool.false_eq_true]
  · skip
    rw [e32_4]
    simp (disch := omega) only [cond_true, cond_false, bI_ok, bI_er, bV_ok, bV_er, bR_ok, bR_er, bD_ok, bD_er, bF_ok, bF_er, thr_ap, cl_nI, lt_nI, le_nI, eq_nI, m1_lt, nI_m1, m1_nI, nI_lt_m1, add_nI, sub_nI, addm_nI, z_addm, z_subm, mul_nI, fit1_0, fit1_1, fit2_n, HI_wI, HK_wI, HL_wI, HR_wI, ckK_wI, chI_wI, sI_wI, wI_wI, lz0, lz1, lz2, lz3, lz4, lz5, lz6, lz7, lz8, lz9, lz10, lz12, lz13, lz16, lz17, lz20, lz21, lz23, lz26, lz30, lz32, lz35, lz40, lz45, lz48, lz57, lz58, lz59, lz60, lz61, lz63, lz64, lz97, lz99, lz100, lz110, lz111, lz126, lz129, lz132, lz133, lz166, lz169, lz255, lz999, lz1183, lz1800, Nat.reduceAdd, Nat.reduceLT, Nat.reduceEqDiff, Nat.not_lt_zero, Nat.lt_irrefl, ↓reduceIte, Nat.zero_add, Nat.add_zero, ne_eq, not_true_eq_false, not_false_eq_true, reduceCtorEq]
theorem countOf_ok (S : TbS h t) (N : TbN (HI h) t) {s : Nat} (hs : s < 3) : CL 151 [.ref t, .int (nI s)] h = some (.ok (.int (nI (sumN (fun r => b2n (decide (0 < ta (HI h) t s r))) (tn (HI h) t)))), h) := by
  have hn := N.n30
  rw [e151]
  simp only [lz0]
  refine (lpUp (F := fun i => RF 151 4 [.ref t, .int (nI s), .int (nI (sumN (fun r => b2n (decide (0 < ta (HI h) t s r))) i)), .int (nI i)] [] h) (Nat.zero_le (tn (HI h) t)) (fun r _ hr => ?_)).trans ?_
  · have ha9 := N.a9 hs (show r < 30 by omega)
    rw [e151_4]
    simp (disch := omega) only [S.f, S.s hs, S.sr hs (show r < 30 by omega), N.a hs (show r < 30 by omega), N.n, hr, sumN, cond_true, cond_false, bI_ok, bI_er, bV_ok, bV_er, bR_ok, bR_er, bD_ok, bD_er, bF_ok, bF_er, thr_ap, cl_nI, lt_nI, le_nI, eq_nI, m1_lt, nI_m1, m1_nI, nI_lt_m1, add_nI, sub_nI, addm_nI, z_addm, z_subm, mul_nI, fit1_0, fit1_1, fit2_n, HI_wI, HK_wI, HL_wI, HR_wI, ckK_wI, chI_wI, sI_wI, wI_wI, lz0, lz1, lz2, lz3, lz4, lz5, lz6, lz7, lz8, lz9, lz10, lz12, lz13, lz16, lz17, lz20, lz21, lz23, lz26, lz30, lz32, lz35, lz40, lz45, lz48, lz57, lz58, lz59, lz60, lz61, lz63, lz64, lz97, lz99, lz100, lz110, lz111, lz126, lz129, lz132, lz133, lz166, lz169, lz255, lz999, lz1183, lz1800, Nat.reduceAdd, Nat.reduceLT, Nat.reduceEqDiff, Nat.not_lt_zero, Nat.lt_irrefl, ↓reduceIte, Nat.zero_add, Nat.add_zero, ne_eq, not_true_eq_false, not_false_eq_true, reduceCtorEq]
    by_cases hz : 0 < ta (HI h) t s r
    · simp only [hz, if_true, decide_true, b2n]
    · simp only [hz, if_false, decide_false, b2n, Nat.add_zero, Bool.false_eq_true]
  · skip
    rw [e151_4]
    simp (disch := omega) only [S.f, N.n, cond_true, cond_false, bI_ok, bI_er, bV_ok, bV_er, bR_ok, bR_er, bD_ok, bD_er, bF_ok, bF_er, thr_ap, cl_nI, lt_nI, le_nI, eq_nI, m1_lt, nI_m1, m1_nI, nI_lt_m1, add_nI, sub_nI, addm_nI, z_addm, z_subm, mul_nI, fit1_0, fit1_1, fit2_n, HI_wI, HK_wI, HL_wI, HR_wI, ckK_wI, chI_wI, sI_wI, wI_wI, lz0, lz1, lz2, lz3, lz4, lz5, lz6, lz7, lz8, lz9, lz10, lz12, lz13, lz16, lz17, lz20, lz21, lz23, lz26, lz30, lz32, lz35, lz40, lz45, lz48, lz57, lz58, lz59, lz60, lz61, lz63, lz64, lz97, lz99, lz100, lz110, lz111, lz126, lz129, lz132, lz133, lz166, lz169, lz255, lz999, lz1183, lz1800, Nat.reduceAdd, Nat.reduceLT, Nat.reduceEqDiff, Nat.not_lt_zero, Nat.lt_irrefl, ↓reduceIte, Nat.zero_add, Nat.add_zero, ne_eq, not_true_eq_false, not_false_eq_true, reduceCtorEq]
theorem sumOf_ok (S : TbS h t) (N : TbN (HI h) t) {s : Nat} (hs : s < 3) : CL 137 [.ref t, .int (nI s)] h = some (.ok (.int (nI (sumN (fun r => ta (HI h) t s r) (tn (HI h) t)))), h) := by
  have hn := N.n30
  rw [e137]
  simp only [lz0]
  refine (lpUp (F := fun i => RF 137 4 [.ref t, .int (nI s), .int (nI (sumN (fun r => ta (HI h) t s r) i)), .int (nI i)] [] h) (Nat.zero_le (tn (HI h) t)) (fun r _ hr => ?_)).trans ?_
  · skip
    rw [e137_4]
    simp (disch := omega) only [S.f, S.s hs, S.sr hs (show r < 30 by omega), N.a hs (show r < 30 by omega), N.n, hr, sumN, cond_true, cond_false, bI_ok, bI_er, bV_ok, bV_er, bR_ok, bR_er, bD_ok, bD_er, bF_ok, bF_er, thr_ap, cl_nI, lt_nI, le_nI, eq_nI, m1_lt, nI_m1, m1_nI, nI_lt_m1, add_nI, sub_nI, addm_nI, z_addm, z_subm, mul_nI, fit1_0, fit1_1, fit2_n, HI_wI, HK_wI, HL_wI, HR_wI, ckK_wI, chI_wI, sI_wI, wI_wI, lz0, lz1, lz2, lz3, lz4, lz5, lz6, lz7, lz8, lz9, lz10, lz12, lz13, lz16, lz17, lz20, lz21, lz23, lz26, lz30, lz32, lz35, lz40, lz45, lz48, lz57, lz58, lz59, lz60, lz61, lz63, lz64, lz97, lz99, lz100, lz110, lz111, lz126, lz129, lz132, lz133, lz166, lz169, lz255, lz999, lz1183, lz1800, Nat.reduceAdd, Nat.reduceLT, Nat.reduceEqDiff, Nat.not_lt_zero, Nat.lt_irrefl, ↓reduceIte, Nat.zero_add, Nat.add_zero, ne_eq, not_true_eq_false, not_false_eq_true, reduceCtorEq]
  · skip
    rw [e137_4]
    simp (disch := omega) only [S.f, N.n, cond_true, cond_false, bI_ok, bI_er, bV_ok, bV_er, bR_ok, bR_er, bD_ok, bD_er, bF_ok, bF_er, thr_ap, cl_nI, lt_nI, le_nI, eq_nI, m1_lt, nI_m1, m1_nI, nI_lt_m1, add_nI, sub_nI, addm_nI, z_addm, z_subm, mul_nI, fit1_0, fit1_1, fit2_n, HI_wI, HK_wI, HL_wI, HR_wI, ckK_wI, chI_wI, sI_wI, wI_wI, lz0, lz1, lz2, lz3, lz4, lz5, lz6, lz7, lz8, lz9, lz10, lz12, lz13, lz16, lz17, lz20, lz21, lz23, lz26, lz30, lz32, lz35, lz40, lz45, lz48, lz57, lz58, lz59, lz60, lz61, lz63, lz64, lz97, lz99, lz100, lz110, lz111, lz126, lz129, lz132, lz133, lz166, lz169, lz255, lz999, lz1183, lz1800, Nat.reduceAdd, Nat.reduceLT, Nat.reduceEqDiff, Nat.not_lt_zero, Nat.lt_irrefl, ↓reduceIte, Nat.zero_add, Nat.add_zero, ne_eq, not_true_eq_false, not_false_eq_true, reduceCtorEq]
end TB
