/-! THE REFERENCE: settling -/
theorem tot_lvA (A : AF) {k a : Nat} (ha : 0 < a) : tot (lvA A k a) = tot A := by
  unfold tot hoA hol3 lvA
  refine sumN_eq (fun k' _ => ?_)
  have hq : ∀ y : Nat, b2n (decide (0 < if k' = k ∧ 0 < y then a else y)) = b2n (decide (0 < y)) := fun y => by
    split
    · rename_i hh
      simp [ha, hh.2]
    · rfl
  rw [hq, hq, hq]
theorem RM.level {g g' : Nat → Int32} {A D : AF} (R : RM g A D) {k a : Nat} (ha : 0 < a) (ha2 : a < 100) (hc : ∀ j, j < tot A → g' (13 + 4 * j + 2) = nI (if mk g j = k then a else A (ms g j) (mk g j))) (ho : ∀ z, z = 1 ∨ (13 ≤ z ∧ z < 133 ∧ z % 4 ≠ 3) → g' z = g z) : RM g' (lvA A k a) D := by
  have m30 := R.m30
  have es : ∀ j, j < tot A → ms g' j = ms g j := fun j hj => congrArg (fun x : Int32 => x.toNatClampNeg - 97) (ho (13 + 4 * j) (by omega))
  have ek : ∀ j, j < tot A → mk g' j = mk g j := fun j hj => congrArg Int32.toNatClampNeg (ho (13 + 4 * j + 1) (by omega))
  unfold RM
  rw [tot_lvA A ha]
  refine ⟨(ho 1 (by omega)).trans R.1, m30, fun j hj => ?_, fun j j' h1 h2 => ?_, fun s k' hs hk h0 => ?_⟩
  · have h1 := R.r hj
    have h2 := R.b hj
    rw [es j hj, ek j hj, ho _ (by omega), ho _ (by omega), hc j hj, ho _ (by omega)]
    have e : lvA A k a (ms g j) (mk g j) = if mk g j = k then a else A (ms g j) (mk g j) := by
      unfold lvA
      by_cases q : mk g j = k
      · rw [if_pos ⟨q, h2.2.2.1⟩, if_pos q]
      · rw [if_neg (fun z => q z.1), if_neg q]
    rw [e]
    refine ⟨h1.1, h2.1, h1.2.1, h2.2.1, rfl, ?_, ?_, h1.2.2.2, h2.2.2.2.2⟩
    · split <;> omega
    · split <;> omega
  · rw [es j (by omega), ek j (by omega), es j' h2, ek j' h2]
    exact R.lt h1 h2
  · have h0' : 0 < A s k' := by
      unfold lvA at h0
      split at h0
      · rename_i q
        exact q.2
      · exact h0
    obtain ⟨j, h1, h2, h3⟩ := R.ex hs hk h0'
    exact ⟨j, h1, (es j h1).trans h2, (ek j h1).trans h3⟩
section MC
variable {h : Hp} {b : Bk}
theorem of_raw (S : MdS h) {j c : Nat} (hj : j < 30) (hc : c < 4) : CL 220 [.ref 241, .int (nI j), .int (nI c)] h = some (.ok (.int (HI h 242 (13 + 4 * j + c))), h) := by
  rw [e220]
  simp (disch := omega) only [S.f, S.cw (show 13 + 4 * j + c < 169 by omega), cond_true, cond_false, bI_ok, bI_er, bV_ok, bV_er, bR_ok, bR_er, bD_ok, bD_er, bF_ok, bF_er, thr_ap, cl_nI, lt_nI, le_nI, eq_nI, m1_lt, nI_m1, m1_nI, nI_lt_m1, add_nI, sub_nI, addm_nI, z_addm, z_subm, mul_nI, fit1_0, fit1_1, fit2_n, HI_wI, HK_wI, HL_wI, HR_wI, ckK_wI, chI_wI, sI_wI, wI_wI, lz0, lz1, lz2, lz3, lz4, lz5, lz6, lz7, lz8, lz9, lz10, lz12, lz13, lz16, lz17, lz20, lz21, lz23, lz26, lz30, lz32, lz35, lz40, lz45, lz48, lz57, lz58, lz59, lz60, lz61, lz63, lz64, lz97, lz99, lz100, lz110, lz111, lz126, lz129, lz132, lz133, lz166, lz169, lz255, lz999, lz1183, lz1800, Nat.reduceAdd, Nat.reduceLT, Nat.reduceEqDiff, Nat.not_lt_zero, Nat.lt_irrefl, ↓reduceIte, Nat.zero_add, Nat.add_zero, ne_eq, not_true_eq_false, not_false_eq_true, reduceCtorEq]
theorem settles_f (S : MdS h) (R : RN (HI h 242) b) (x y : Int32) (hbad : (inr 97 99 x && inr 0 999 y) = false) : CL 237 [.ref 241, .int x, .int y] h = some (.ok (.int (nI 0)), wI h (u2 (HI h) 241 16 (nI 1))) := by
  have hi1 := isSource_ok (h := h) x
  have hi2 := isKeyM_ok (h := h) y
  have hf := find_f S R.1 x y (by
    rw [Bool.and_eq_false_iff] at hbad
    exact hbad)
  have hg := holds_ok S false false false
  rw [b2f, show thN false false false = 1 from rfl, show b2n (decide (1 = 0)) = 0 from rfl] at hg
  rw [e237]
  cases q1 : inr 97 99 x with
  | false =>
    rw [q1, b2f] at hi1
    simp (disch := omega) only [S.f, hf, hi1, hg, cond_true, cond_false, bI_ok, bI_er, bV_ok, bV_er, bR_ok, bR_er, bD_ok, bD_er, bF_ok, bF_er, thr_ap, cl_nI, lt_nI, le_nI, eq_nI, m1_lt, nI_m1, m1_nI, nI_lt_m1, add_nI, sub_nI, addm_nI, z_addm, z_subm, mul_nI, fit1_0, fit1_1, fit2_n, HI_wI, HK_wI, HL_wI, HR_wI, ckK_wI, chI_wI, sI_wI, wI_wI, lz0, lz1, lz2, lz3, lz4, lz5, lz6, lz7, lz8, lz9, lz10, lz12, lz13, lz16, lz17, lz20, lz21, lz23, lz26, lz30, lz32, lz35, lz40, lz45, lz48, lz57, lz58, lz59, lz60, lz61, lz63, lz64, lz97, lz99, lz100, lz110, lz111, lz126, lz129, lz132, lz133, lz166, lz169, lz255, lz999, lz1183, lz1800, Nat.reduceAdd, Nat.reduceLT, Nat.reduceEqDiff, Nat.not_lt_zero, Nat.lt_irrefl, ↓reduceIte, Nat.zero_add, Nat.add_zero, ne_eq, not_true_eq_false, not_false_eq_true, reduceCtorEq]
  | true =>
    rw [q1, Bool.true_and] at hbad
    rw [q1, b2t] at hi1
    rw [hbad, b2f] at hi2
    simp (disch := omega) only [S.f, hf, hi1, hi2, hg, Nat.succ_ne_self, cond_true, cond_false, bI_ok, bI_er, bV_ok, bV_er, bR_ok, bR_er, bD_ok, bD_er, bF_ok, bF_er, thr_ap, cl_nI, lt_nI, le_nI, eq_nI, m1_lt, nI_m1, m1_nI, nI_lt_m1, add_nI, sub_nI, addm_nI, z_addm, z_subm, mul_nI, fit1_0, fit1_1, fit2_n, HI_wI, HK_wI, HL_wI, HR_wI, ckK_wI, chI_wI, sI_wI, wI_wI, lz0, lz1, lz2, lz3, lz4, lz5, lz6, lz7, lz8, lz9, lz10, lz12, lz13, lz16, lz17, lz20, lz21, lz23, lz26, lz30, lz32, lz35, lz40, lz45, lz48, lz57, lz58, lz59, lz60, lz61, lz63, lz64, lz97, lz99, lz100, lz110, lz111, lz126, lz129, lz132, lz133, lz166, lz169, lz255, lz999, lz1183, lz1800, Nat.reduceAdd, Nat.reduceLT, Nat.reduceEqDiff, Nat.not_lt_zero, Nat.lt_irrefl, ↓reduceIte, Nat.zero_add, Nat.add_zero, ne_eq, not_true_eq_false, not_false_eq_true, reduceCtorEq]
theorem settles_n (S : MdS h) (R : RN (HI h 242) b) {s k : Nat} (hs : s < 3) (hk : k < 1000) (h0 : kA b s k = 0) : CL 237 [.ref 241, .int (nI (97 + s)), .int (nI k)] h = some (.ok (.int (nI 0)), wI h (u2 (HI h) 241 16 (nI 2))) := by
  have hi1 := isSource_ok (h := h) (nI (97 + s))
  have hi2 := isKeyM_ok (h := h) (nI k)
  rw [inr_nI (by omega) (by omega) (by decide), b2t] at hi1 hi2
  have hf := find_n S R.1 hs hk h0
  have hg := holds_ok S true false false
  rw [b2f, b2t, show thN true false false = 2 from rfl, show b2n (decide (2 = 0)) = 0 from rfl] at hg
  rw [e237]
  simp (disch := omega) only [S.f, hf, hi1, hi2, hg, Nat.succ_ne_self, cond_true, cond_false, bI_ok, bI_er, bV_ok, bV_er, bR_ok, bR_er, bD_ok, bD_er, bF_ok, bF_er, thr_ap, cl_nI, lt_nI, le_nI, eq_nI, m1_lt, nI_m1, m1_nI, nI_lt_m1, add_nI, sub_nI, addm_nI, z_addm, z_subm, mul_nI, fit1_0, fit1_1, fit2_n, HI_wI, HK_wI, HL_wI, HR_wI, ckK_wI, chI_wI, sI_wI, wI_wI, lz0, lz1, lz2, lz3, lz4, lz5, lz6, lz7, lz8, lz9, lz10, lz12, lz13, lz16, lz17, lz20, lz21, lz23, lz26, lz30, lz32, lz35, lz40, lz45, lz48, lz57, lz58, lz59, lz60, lz61, lz63, lz64, lz97, lz99, lz100, lz110, lz111, lz126, lz129, lz132, lz133, lz166, lz169, lz255, lz999, lz1183, lz1800, Nat.reduceAdd, Nat.reduceLT, Nat.reduceEqDiff, Nat.not_lt_zero, Nat.lt_irrefl, ↓reduceIte, Nat.zero_add, Nat.add_zero, ne_eq, not_true_eq_false, not_false_eq_true, reduceCtorEq]
theorem settles_s (S : MdS h) (R : RN (HI h 242) b) {s k : Nat} (hs : s < 3) (hk : k < 1000) (h0 : 0 < kA b s k) (hst : stA (kA b) k ≠ 100) : CL 237 [.ref 241, .int (nI (97 + s)), .int (nI k)] h = some (.ok (.int (nI 0)), wI h (u2 (HI h) 241 16 (nI 3))) := by
  have m30 := R.1.m30
  have hi1 := isSource_ok (h := h) (nI (97 + s))
  have hi2 := isKeyM_ok (h := h) (nI k)
  rw [inr_nI (by omega) (by omega) (by decide), b2t] at hi1 hi2
  obtain ⟨w, w1, w2, w3, hf⟩ := find_t S R.1 hs hk h0
  have hq := status_ok S R.1 hk (hoA_pos hs h0)
  have hl : stA (kA b) k < 112 := st3_lt _ _ _
  have hg := holds_ok S true true false
  rw [b2f, b2t, show thN true true false = 3 from rfl, show b2n (decide (3 = 0)) = 0 from rfl] at hg
  rw [e237]
  simp (disch := omega) only [S.f, hf, hi1, hi2, hq, hst, hg, Nat.succ_ne_self, cond_true, cond_false, bI_ok, bI_er, bV_ok, bV_er, bR_ok, bR_er, bD_ok, bD_er, bF_ok, bF_er, thr_ap, cl_nI, lt_nI, le_nI, eq_nI, m1_lt, nI_m1, m1_nI, nI_lt_m1, add_nI, sub_nI, addm_nI, z_addm, z_subm, mul_nI, fit1_0, fit1_1, fit2_n, HI_wI, HK_wI, HL_wI, HR_wI, ckK_wI, chI_wI, sI_wI, wI_wI, lz0, lz1, lz2, lz3, lz4, lz5, lz6, lz7, lz8, lz9, lz10, lz12, lz13, lz16, lz17, lz20, lz21, lz23, lz26, lz30, lz32, lz35, lz40, lz45, lz48, lz57, lz58, lz59, lz60, lz61, lz63, lz64, lz97, lz99, lz100, lz110, lz111, lz126, lz129, lz132, lz133, lz166, lz169, lz255, lz999, lz1183, lz1800, Nat.reduceAdd, Nat.reduceLT, Nat.reduceEqDiff, Nat.not_lt_zero, Nat.lt_irrefl, ↓reduceIte, Nat.zero_add, Nat.add_zero, ne_eq, not_true_eq_false, not_false_eq_true, reduceCtorEq]
/-- the state of the loop in front of record i -/
def stI (b : Bk) (s k : Nat) (f : Nat → Nat → Int32) (i : Nat) (x : Nat → Nat → Int32) : Prop := (∀ j, j < tot (kA b) → x 242 (13 + 4 * j + 2) = nI (if j < i ∧ mk (f 242) j = k then kA b s k else kA b (ms (f 242) j) (mk (f 242) j))) ∧ (∀ j, j < i → mk (f 242) j = k → kA b (ms (f 242) j) k ≠ kA b s k → x 242 (10 + ms (f 242) j) = nI (kT b (ms (f 242) j) - 1)) ∧ (∀ s', s' < 3 → (∀ j, j < i → mk (f 242) j = k → ms (f 242) j = s' → kA b s' k = kA b s k) → x 242 (10 + s') = nI (kT b s')) ∧ ∀ c z, c ≠ 242 ∨ z < 10 ∨ 133 ≤ z ∨ (13 ≤ z ∧ z % 4 ≠ 3) → x c z = u2 f 241 16 (nI 0) c z
theorem settles_step (S : MdS h) (R : RN (HI h 242) b) {s k i : Nat} (hs : s < 3) (hk : k < 1000) (hi : i < tot (kA b)) {x : Nat → Nat → Int32} (P : stI b s k (HI h) i x) (w : Nat) (v : Value) (h0 : 0 < kA b s k) (hsk : kA b s k < 100) : ∃ v' x', RF 237 79 [.ref 241, .int (nI (97 + s)), .int (nI k), .int (nI w), .int (nI (kA b s k)), .int (nI (sumN (fun j => b2n (decide (mk (HI h 242) j = k ∧ kA b (ms (HI h 242) j) (mk (HI h 242) j) ≠ kA b s k))) i)), .int (nI i), v] [] (wI h x) = RF 237 79 [.ref 241, .int (nI (97 + s)), .int (nI k), .int (nI w), .int (nI (kA b s k)), .int (nI (sumN (fun j => b2n (decide (mk (HI h 242) j = k ∧ kA b (ms (HI h 242) j) (mk (HI h 242) j) ≠ kA b s k))) (i + 1))), .int (nI (i + 1)), v'] [] (wI h x') ∧ stI b s k (HI h) (i + 1) x' := by
  have m30 := R.1.m30
  obtain ⟨p1, p2, p3, p4⟩ := P
  have hb := R.1.b hi
  have hr := R.1.r hi
  have x1 : x 242 1 = nI (tot (kA b)) := (p4 242 1 (by omega)).trans ((w2_ne (by omega)).trans R.1.m)
  have v0 := of_raw (S.wI x) (j := i) (c := 0) (by omega) (by decide)
  have v1 := of_raw (S.wI x) (j := i) (c := 1) (by omega) (by decide)
  have v2 := of_raw (S.wI x) (j := i) (c := 2) (by omega) (by decide)
  have y0 : x 242 (13 + 4 * i) = nI (97 + ms (HI h 242) i) := (p4 242 _ (by omega)).trans ((w2_ne (by omega)).trans hr.1)
  have y1 : x 242 (13 + 4 * i + 1) = nI (mk (HI h 242) i) := (p4 242 _ (by omega)).trans ((w2_ne (by omega)).trans hr.2.1)
  have y2 := p1 i hi
  rw [if_neg (by omega)] at y2
  rw [HI_wI] at v0 v1 v2
  rw [Nat.add_zero, y0] at v0
  rw [y1] at v1
  rw [y2] at v2
  by_cases q1 : mk (HI h 242) i = k
  · by_cases q2 : kA b (ms (HI h 242) i) (mk (HI h 242) i) = kA b s k
    · refine ⟨v, x, ?_, fun j hj => ?_, fun j hj hk2 hne => ?_, fun s' hs' hh => p3 s' hs' (fun j hj => hh j (by omega)), p4⟩
      · rw [q1] at q2 v2
        rw [e237_79]
        simp (disch := omega) only [S.f, S.cw (show 1 < 169 by decide), x1, hi, v1, v2, q1, q2, sumN, and_false, not_true_eq_false, decide_false, b2f, eq_self, cond_true, cond_false, bI_ok, bI_er, bV_ok, bV_er, bR_ok, bR_er, bD_ok, bD_er, bF_ok, bF_er, thr_ap, cl_nI, lt_nI, le_nI, eq_nI, m1_lt, nI_m1, m1_nI, nI_lt_m1, add_nI, sub_nI, addm_nI, z_addm, z_subm, mul_nI, fit1_0, fit1_1, fit2_n, HI_wI, HK_wI, HL_wI, HR_wI, ckK_wI, chI_wI, sI_wI, wI_wI, lz0, lz1, lz2, lz3, lz4, lz5, lz6, lz7, lz8, lz9, lz10, lz12, lz13, lz16, lz17, lz20, lz21, lz23, lz26, lz30, lz32, lz35, lz40, lz45, lz48, lz57, lz58, lz59, lz60, lz61, lz63, lz64, lz97, lz99, lz100, lz110, lz111, lz126, lz129, lz132, lz133, lz166, lz169, lz255, lz999, lz1183, lz1800, Nat.reduceAdd, Nat.reduceLT, Nat.reduceEqDiff, Nat.not_lt_zero, Nat.lt_irrefl, ↓reduceIte, Nat.zero_add, Nat.add_zero, ne_eq, not_true_eq_false, not_false_eq_true, reduceCtorEq]
      · rw [p1 j hj]
        congr 1
        by_cases q3 : j = i
        · subst q3
          rw [if_neg (by omega), if_pos ⟨by omega, q1⟩, q2]
        · by_cases q4 : j < i ∧ mk (HI h 242) j = k
          · rw [if_pos q4, if_pos ⟨by omega, q4.2⟩]
          · rw [if_neg q4, if_neg (by omega)]
      · by_cases q3 : j = i
        · subst q3
          rw [q1] at q2
          exact absurd q2 hne
        · exact p2 j (by omega) hk2 hne
    · have hT := p3 (ms (HI h 242) i) hb.1 (fun j hj q3 q4 => by
        have := R.1.inj (by omega) hi q4 (q3.trans q1.symm)
        omega)
      have hT9 := (R.2.2.1 _ hb.1).2
      refine ⟨.int (nI (10 + ms (HI h 242) i)), u2 (u2 x 242 (13 + 4 * i + 2) (nI (kA b s k))) 242 (10 + ms (HI h 242) i) (nI (kT b (ms (HI h 242) i) - 1)), ?_, fun j hj => ?_, fun j hj hk2 hne => ?_, fun s' hs' hh => ?_, fun c z hcz => ?_⟩
      · have v0' := of_raw (S.wI (u2 x 242 (13 + 4 * i + 2) (nI (kA b s k)))) (j := i) (c := 0) (by omega) (by decide)
        rw [HI_wI, Nat.add_zero (13 + 4 * i), w2_ne (by omega), y0] at v0'
        have e10 : 10 + (97 + ms (HI h 242) i) - 97 = 10 + ms (HI h 242) i := by omega
        have hms := hb.1
        rw [e237_79]
        rw [q1] at v2
        have hb9 := hb.2.2.2.1
        rw [q1] at hb9
        by_cases t0 : kT b (ms (HI h 242) i) = 0
        · rw [t0] at hT
          rw [q1] at q2
          simp (disch := omega) only [S.f, S.cw (show 1 < 169 by decide), S.cw (show 13 + 4 * i + 2 < 169 by omega), S.cw (show 10 + ms (HI h 242) i < 169 by omega), x1, hi, v1, v2, v0', e10, w2_ne, hT, t0, q1, q2, sumN, not_false_eq_true, true_and, decide_true, b2t, Nat.zero_sub, cond_true, cond_false, bI_ok, bI_er, bV_ok, bV_er, bR_ok, bR_er, bD_ok, bD_er, bF_ok, bF_er, thr_ap, cl_nI, lt_nI, le_nI, eq_nI, m1_lt, nI_m1, m1_nI, nI_lt_m1, add_nI, sub_nI, addm_nI, z_addm, z_subm, mul_nI, fit1_0, fit1_1, fit2_n, HI_wI, HK_wI, HL_wI, HR_wI, ckK_wI, chI_wI, sI_wI, wI_wI, lz0, lz1, lz2, lz3, lz4, lz5, lz6, lz7, lz8, lz9, lz10, lz12, lz13, lz16, lz17, lz20, lz21, lz23, lz26, lz30, lz32, lz35, lz40, lz45, lz48, lz57, lz58, lz59, lz60, lz61, lz63, lz64, lz97, lz99, lz100, lz110, lz111, lz126, lz129, lz132, lz133, lz166, lz169, lz255, lz999, lz1183, lz1800, Nat.reduceAdd, Nat.reduceLT, Nat.reduceEqDiff, Nat.not_lt_zero, Nat.lt_irrefl, ↓reduceIte, Nat.zero_add, Nat.add_zero, ne_eq, not_true_eq_false, not_false_eq_true, reduceCtorEq]
        · rw [q1] at q2
          by_cases t1 : kT b (ms (HI h 242) i) = 1
          · rw [t1] at hT
            simp (disch := omega) only [S.f, S.cw (show 1 < 169 by decide), S.cw (show 13 + 4 * i + 2 < 169 by omega), S.cw (show 10 + ms (HI h 242) i < 169 by omega), x1, hi, v1, v2, v0', e10, w2_ne, hT, t1, q1, q2, sumN, not_false_eq_true, true_and, decide_true, b2t, Nat.sub_self, cond_true, cond_false, bI_ok, bI_er, bV_ok, bV_er, bR_ok, bR_er, bD_ok, bD_er, bF_ok, bF_er, thr_ap, cl_nI, lt_nI, le_nI, eq_nI, m1_lt, nI_m1, m1_nI, nI_lt_m1, add_nI, sub_nI, addm_nI, z_addm, z_subm, mul_nI, fit1_0, fit1_1, fit2_n, HI_wI, HK_wI, HL_wI, HR_wI, ckK_wI, chI_wI, sI_wI, wI_wI, lz0, lz1, lz2, lz3, lz4, lz5, lz6, lz7, lz8, lz9, lz10, lz12, lz13, lz16, lz17, lz20, lz21, lz23, lz26, lz30, lz32, lz35, lz40, lz45, lz48, lz57, lz58, lz59, lz60, lz61, lz63, lz64, lz97, lz99, lz100, lz110, lz111, lz126, lz129, lz132, lz133, lz166, lz169, lz255, lz999, lz1183, lz1800, Nat.reduceAdd, Nat.reduceLT, Nat.reduceEqDiff, Nat.not_lt_zero, Nat.lt_irrefl, ↓reduceIte, Nat.zero_add, Nat.add_zero, ne_eq, not_true_eq_false, not_false_eq_true, reduceCtorEq]
          · simp (disch := omega) only [S.f, S.cw (show 1 < 169 by decide), S.cw (show 13 + 4 * i + 2 < 169 by omega), S.cw (show 10 + ms (HI h 242) i < 169 by omega), x1, hi, v1, v2, v0', e10, w2_ne, hT, show 0 < kT b (ms (HI h 242) i) - 1 by omega, q1, q2, sumN, not_false_eq_true, true_and, decide_true, b2t, cond_true, cond_false, bI_ok, bI_er, bV_ok, bV_er, bR_ok, bR_er, bD_ok, bD_er, bF_ok, bF_er, thr_ap, cl_nI, lt_nI, le_nI, eq_nI, m1_lt, nI_m1, m1_nI, nI_lt_m1, add_nI, sub_nI, addm_nI, z_addm, z_subm, mul_nI, fit1_0, fit1_1, fit2_n, HI_wI, HK_wI, HL_wI, HR_wI, ckK_wI, chI_wI, sI_wI, wI_wI, lz0, lz1, lz2, lz3, lz4, lz5, lz6, lz7, lz8, lz9, lz10, lz12, lz13, lz16, lz17, lz20, lz21, lz23, lz26, lz30, lz32, lz35, lz40, lz45, lz48, lz57, lz58, lz59, lz60, lz61, lz63, lz64, lz97, lz99, lz100, lz110, lz111, lz126, lz129, lz132, lz133, lz166, lz169, lz255, lz999, lz1183, lz1800, Nat.reduceAdd, Nat.reduceLT, Nat.reduceEqDiff, Nat.not_lt_zero, Nat.lt_irrefl, ↓reduceIte, Nat.zero_add, Nat.add_zero, ne_eq, not_true_eq_false, not_false_eq_true, reduceCtorEq]
      · have hms := hb.1
        rw [w2_ne (by omega)]
        by_cases q3 : j = i
        · subst q3
          rw [w2_eq, if_pos ⟨by omega, q1⟩]
        · rw [w2_ne (by omega), p1 j hj]
          congr 1
          by_cases q4 : j < i ∧ mk (HI h 242) j = k
          · rw [if_pos q4, if_pos ⟨by omega, q4.2⟩]
          · rw [if_neg q4, if_neg (by omega)]
      · by_cases q3 : j = i
        · subst q3
          exact w2_eq _ _ _ _
        · have hne2 : ms (HI h 242) j ≠ ms (HI h 242) i := fun q4 => by
            have := R.1.inj (by omega) hi q4 (hk2.trans q1.symm)
            omega
          have := (R.1.b (show j < tot (kA b) by omega)).1
          rw [w2_ne (by omega), w2_ne (by omega)]
          exact p2 j (by omega) hk2 hne
      · have hne2 : s' ≠ ms (HI h 242) i := fun q4 => by
          have := hh i (by omega) q1 q4.symm
          rw [q4] at this
          rw [q1] at q2
          exact q2 this
        rw [w2_ne (by omega), w2_ne (by omega)]
        exact p3 s' hs' (fun j hj => hh j (by omega))
      · have hms := hb.1
        rw [w2_ne (by omega), w2_ne (by omega)]
        exact p4 c z hcz
  · refine ⟨v, x, ?_, fun j hj => ?_, fun j hj hk2 hne => ?_, fun s' hs' hh => p3 s' hs' (fun j hj => hh j (by omega)), p4⟩
    · rw [e237_79]
      simp (disch := omega) only [S.f, S.cw (show 1 < 169 by decide), x1, hi, v1, q1, sumN, false_and, decide_false, b2f, cond_true, cond_false, bI_ok, bI_er, bV_ok, bV_er, bR_ok, bR_er, bD_ok, bD_er, bF_ok, bF_er, thr_ap, cl_nI, lt_nI, le_nI, eq_nI, m1_lt, nI_m1, m1_nI, nI_lt_m1, add_nI, sub_nI, addm_nI, z_addm, z_subm, mul_nI, fit1_0, fit1_1, fit2_n, HI_wI, HK_wI, HL_wI, HR_wI, ckK_wI, chI_wI, sI_wI, wI_wI, lz0, lz1, lz2, lz3, lz4, lz5, lz6, lz7, lz8, lz9, lz10, lz12, lz13, lz16, lz17, lz20, lz21, lz23, lz26, lz30, lz32, lz35, lz40, lz45, lz48, lz57, lz58, lz59, lz60, lz61, lz63, lz64, lz97, lz99, lz100, lz110, lz111, lz126, lz129, lz132, lz133, lz166, lz169, lz255, lz999, lz1183, lz1800, Nat.reduceAdd, Nat.reduceLT, Nat.reduceEqDiff, Nat.not_lt_zero, Nat.lt_irrefl, ↓reduceIte, Nat.zero_add, Nat.add_zero, ne_eq, not_true_eq_false, not_false_eq_true, reduceCtorEq]
    · rw [p1 j hj]
      congr 1
      by_cases q3 : j = i
      · subst q3
        rw [if_neg (by omega), if_neg (by omega)]
      · by_cases q4 : j < i ∧ mk (HI h 242) j = k
        · rw [if_pos q4, if_pos ⟨by omega, q4.2⟩]
        · rw [if_neg q4, if_neg (by omega)]
    · by_cases q3 : j = i
      · subst q3
        exact absurd hk2 q1
      · exact p2 j (by omega) hk2 hne
theorem settles_sum {g : Nat → Int32} {A D : AF} (R : RM g A D) {k a : Nat} (hk : k < 1000) : sumN (fun j => b2n (decide (mk g j = k ∧ A (ms g j) (mk g j) ≠ a))) (tot A) = lvN A k a 3 := by
  rw [R.sum (F := fun s' k' => b2n (decide (k' = k ∧ 0 < A s' k' ∧ A s' k' ≠ a))) (fun j hj => by
    have := (R.b hj).2.2.1
    congr 1
    rw [decide_eq_decide]
    exact ⟨fun q => ⟨q.1, this, q.2⟩, fun q => ⟨q.1, q.2.2⟩⟩) (fun s' k' _ _ h0 => by
    rw [h0, decide_eq_false (by omega)]
    rfl)]
  have hone : ∀ s', sumN ((fun s' k' => b2n (decide (k' = k ∧ 0 < A s' k' ∧ A s' k' ≠ a))) s') 1000 = b2n (decide (0 < A s' k ∧ A s' k ≠ a)) := fun s' => by
    refine (sumN_key hk (fun k' q => ?_)).trans ?_
    · dsimp only
      rw [decide_eq_false (fun z => q z.1)]
      rfl
    · dsimp only
      congr 1
      rw [decide_eq_decide]
      exact ⟨fun q => q.2, fun q => ⟨rfl, q⟩⟩
  rw [hone, hone, hone]
  unfold lvN sumN sumN sumN sumN
  rw [Nat.zero_add]
theorem settles_t (S : MdS h) (R : RN (HI h 242) b) {s k : Nat} (hs : s < 3) (hk : k < 1000) (h0 : 0 < kA b s k) (hst : stA (kA b) k = 100) : ∃ f', CL 237 [.ref 241, .int (nI (97 + s)), .int (nI k)] h = some (.ok (.int (nI (lvN (kA b) k (kA b s k) 3))), wI h f') ∧ RN (f' 242) (stB b s k) ∧ f' 241 16 = nI 0 ∧ FM (HI h) f' := by
  have m30 := R.1.m30
  have hi1 := isSource_ok (h := h) (nI (97 + s))
  have hi2 := isKeyM_ok (h := h) (nI k)
  rw [inr_nI (by omega) (by omega) (by decide), b2t] at hi1 hi2
  obtain ⟨w, w1, w2, w3, hf⟩ := find_t S R.1 hs hk h0
  have hq := status_ok S R.1 hk (hoA_pos hs h0)
  rw [hst] at hq
  have hg := holds_ok S true true true
  rw [b2t, show thN true true true = 0 from rfl, show b2n (decide (0 = 0)) = 1 from rfl] at hg
  have v2 := of_raw (S.wI (u2 (HI h) 241 16 (nI 0))) (j := w) (c := 2) (by omega) (by decide)
  have hrw := (R.1.r w1).2.2.1
  rw [w2, w3] at hrw
  rw [HI_wI, w2_ne (by omega), hrw] at v2
  have a9 := R.1.a9 hs hk
  have hstart : CL 237 [.ref 241, .int (nI (97 + s)), .int (nI k)] h = RF 237 79 [.ref 241, .int (nI (97 + s)), .int (nI k), .int (nI w), .int (nI (kA b s k)), .int (nI 0), .int (nI 0), .null] [] (wI h (u2 (HI h) 241 16 (nI 0))) := by
    rw [e237]
    simp (disch := omega) only [S.f, hf, hi1, hi2, hq, hg, v2, eq_self, Nat.succ_ne_self, cond_true, cond_false, bI_ok, bI_er, bV_ok, bV_er, bR_ok, bR_er, bD_ok, bD_er, bF_ok, bF_er, thr_ap, cl_nI, lt_nI, le_nI, eq_nI, m1_lt, nI_m1, m1_nI, nI_lt_m1, add_nI, sub_nI, addm_nI, z_addm, z_subm, mul_nI, fit1_0, fit1_1, fit2_n, HI_wI, HK_wI, HL_wI, HR_wI, ckK_wI, chI_wI, sI_wI, wI_wI, lz0, lz1, lz2, lz3, lz4, lz5, lz6, lz7, lz8, lz9, lz10, lz12, lz13, lz16, lz17, lz20, lz21, lz23, lz26, lz30, lz32, lz35, lz40, lz45, lz48, lz57, lz58, lz59, lz60, lz61, lz63, lz64, lz97, lz99, lz100, lz110, lz111, lz126, lz129, lz132, lz133, lz166, lz169, lz255, lz999, lz1183, lz1800, Nat.reduceAdd, Nat.reduceLT, Nat.reduceEqDiff, Nat.not_lt_zero, Nat.lt_irrefl, ↓reduceIte, Nat.zero_add, Nat.add_zero, ne_eq, not_true_eq_false, not_false_eq_true, reduceCtorEq]
  obtain ⟨⟨v, g⟩, g1, g2⟩ := lpEx (β := Value × (Nat → Nat → Int32)) (n := tot (kA b)) (x0 := (Value.null, u2 (HI h) 241 16 (nI 0))) (F := fun i x => RF 237 79 [.ref 241, .int (nI (97 + s)), .int (nI k), .int (nI w), .int (nI (kA b s k)), .int (nI (sumN (fun j => b2n (decide (mk (HI h 242) j = k ∧ kA b (ms (HI h 242) j) (mk (HI h 242) j) ≠ kA b s k))) i)), .int (nI i), x.1] [] (wI h x.2)) (P := fun i x => stI b s k (HI h) i x.2) ⟨fun j hj => by
      dsimp only
      rw [w2_ne (by omega), if_neg (by omega)]
      exact (R.1.r hj).2.2.1, fun j hj => absurd hj (Nat.not_lt_zero j), fun s' hs' _ => by
      dsimp only
      rw [w2_ne (by omega)]
      exact (R.2.2.1 s' hs').1, fun _ _ _ => rfl⟩ (fun i x hi hP => by
    obtain ⟨v', x', e1, e2⟩ := settles_step S R hs hk hi hP w x.1 h0 a9
    exact ⟨(v', x'), e1, e2⟩)
  dsimp only at g1 g2
  obtain ⟨p1, p2, p3, p4⟩ := g2
  rw [settles_sum R.1 hk] at g1
  have x1 : g 242 1 = nI (tot (kA b)) := (p4 242 1 (by omega)).trans ((w2_ne (by omega)).trans R.1.m)
  have x9 : g 242 9 = nI (kU b 6) := (p4 242 9 (by omega)).trans ((w2_ne (by omega)).trans (R.2.2.2.1 6 (by decide)))
  have hT := p3 s hs (fun j hj q1 q2 => rfl)
  have hT9 := (R.2.2.1 s hs).2
  have e10 : 10 + (97 + s) - 97 = 10 + s := by omega
  have hTs : (if kT b s + 1 < 9 then nI (kT b s + 1) else nI 9) = nI (stT b s k 3 s) := by
    unfold stT
    rw [if_pos rfl]
    by_cases q : kT b s + 1 < 10
    · rw [if_pos q]
      by_cases q2 : kT b s + 1 < 9
      · rw [if_pos q2]
      · rw [if_neg q2]
        congr 1
        omega
    · rw [if_neg q, if_neg (by omega)]
  refine ⟨u2 (u2 g 242 (10 + s) (nI (stT b s k 3 s))) 242 9 (nI (kU b 6 + 1)), ?_, ⟨?_, R.q.cong (fun z hz hz2 => ?_), fun s' hs' => ?_, fun j hj => ?_, ?_⟩, ?_, fun a x z1 z2 => ?_⟩
  · refine hstart.trans (g1.trans ?_)
    rw [e237_79]
    simp (disch := omega) only [S.f, S.cw (show 1 < 169 by decide), S.cw (show 9 < 169 by decide), S.cw (show 10 + s < 169 by omega), x1, x9, e10, hT, hTs, w2_ne, cond_true, cond_false, bI_ok, bI_er, bV_ok, bV_er, bR_ok, bR_er, bD_ok, bD_er, bF_ok, bF_er, thr_ap, cl_nI, lt_nI, le_nI, eq_nI, m1_lt, nI_m1, m1_nI, nI_lt_m1, add_nI, sub_nI, addm_nI, z_addm, z_subm, mul_nI, fit1_0, fit1_1, fit2_n, HI_wI, HK_wI, HL_wI, HR_wI, ckK_wI, chI_wI, sI_wI, wI_wI, lz0, lz1, lz2, lz3, lz4, lz5, lz6, lz7, lz8, lz9, lz10, lz12, lz13, lz16, lz17, lz20, lz21, lz23, lz26, lz30, lz32, lz35, lz40, lz45, lz48, lz57, lz58, lz59, lz60, lz61, lz63, lz64, lz97, lz99, lz100, lz110, lz111, lz126, lz129, lz132, lz133, lz166, lz169, lz255, lz999, lz1183, lz1800, Nat.reduceAdd, Nat.reduceLT, Nat.reduceEqDiff, Nat.not_lt_zero, Nat.lt_irrefl, ↓reduceIte, Nat.zero_add, Nat.add_zero, ne_eq, not_true_eq_false, not_false_eq_true, reduceCtorEq]
  · refine R.1.level h0 a9 (fun j hj => ?_) (fun z hz => ?_)
    · rw [w2_ne (by omega), w2_ne (by omega), p1 j hj]
      congr 1
      by_cases q : mk (HI h 242) j = k
      · rw [if_pos ⟨hj, q⟩, if_pos q]
      · rw [if_neg (fun z => q z.2), if_neg q]
    · rw [w2_ne (by omega), w2_ne (by omega), p4 242 z (by omega), w2_ne (by omega)]
  · rw [w2_ne (by omega), w2_ne (by omega), p4 242 z (by omega), w2_ne (by omega)]
  · rw [w2_ne (by omega)]
    by_cases q : s' = s
    · subst q
      rw [w2_eq]
      refine ⟨rfl, ?_⟩
      show stT b s' k 3 s' ≤ 9
      unfold stT
      rw [if_pos rfl]
      split <;> omega
    · rw [w2_ne (by omega)]
      have h9 := (R.2.2.1 s' hs').2
      show _ = nI (stT b s k 3 s') ∧ stT b s k 3 s' ≤ 9
      unfold stT
      rw [if_neg q]
      by_cases q2 : 0 < kA b s' k ∧ kA b s' k ≠ kA b s k
      · obtain ⟨j, j1, j2, j3⟩ := R.1.ex hs' hk q2.1
        rw [if_pos ⟨hs', q2⟩]
        have := p2 j j1 j3 (by rw [j2]; exact q2.2)
        rw [j2] at this
        exact ⟨this, by omega⟩
      · rw [if_neg (fun z => q2 z.2)]
        refine ⟨p3 s' hs' (fun j j1 j2 j3 => ?_), h9⟩
        have := (R.1.b j1).2.2.1
        rw [j2, j3] at this
        by_cases q3 : kA b s' k = kA b s k
        · exact q3
        · exact absurd ⟨this, q3⟩ q2
  · show _ = nI (if j = 6 then kU b 6 + 1 else kU b j)
    by_cases q : j = 6
    · subst q
      rw [if_pos rfl]
      exact w2_eq _ _ _ _
    · rw [if_neg q, w2_ne (by omega), w2_ne (by omega), p4 242 _ (by omega), w2_ne (by omega)]
      exact R.2.2.2.1 j hj
  · rw [w2_ne (by omega), w2_ne (by omega), p4 242 0 (by omega), w2_ne (by omega)]
    exact R.2.2.2.2
  · rw [w2_ne (by omega), w2_ne (by omega), p4 241 16 (by omega), w2_eq]
  · rw [w2_ne (by omega), w2_ne (by omega), p4 a x (by omega), w2_ne z2]
end MC
