/-! CARRYING OUT, AND COPYING BOOKS -/
def adB (b : Bk) (s k a : Nat) : Bk := (kA b, kD b, kN b + 1, adQ (kQ b) (kN b) s k a, kT b, kU b, kY b)
def rmB (b : Bk) (p : Nat) : Bk := (kA b, kD b, kN b - 1, rmQ (kQ b) p, kT b, kU b, kY b)
def wtB (b : Bk) (d : Nat) : Bk := (kA b, kD b, kN b, kQ b, kT b, kU b, kY b + d)
def effB (b : Bk) (j s k a : Nat) : Bk := match j with
  | 0 => adB b s k a
  | 1 => rmB b ((la? (isQ (kQ b) s k a) (kN b)).getD 0)
  | 2 => clB b
  | 3 => rjB b
  | 4 => stB b s k
  | 5 => drB b s k
  | _ => wtB b a
def ansB (b : Bk) (j s k a : Nat) : Nat := match j with
  | 0 => kN b + 1
  | 1 => kN b - 1
  | 2 => nwA (kA b) (kQ b) (kN b)
  | 3 => kN b
  | 4 => lvN (kA b) k (kA b s k) 3
  | 5 => tot (sA (kA b) s k 0)
  | _ => kY b + a
theorem Bd.eff {b : Bk} {y j s k a : Nat} (H : Bd b y) (ha : a ≤ 99) (hn : kN b ≤ 12) : Bd (effB b j s k a) (y + 99) := by
  have hd := dpN_le (kA b) (kQ b) (kN b)
  have hc := coN_le (kA b) (kQ b) (kN b)
  have hw := nwA_le (kA b) (kQ b) (kN b)
  have h0 := H.1 0 (by decide)
  have h1 := H.1 1 (by decide)
  have h2 := H.1 2 (by decide)
  have h3 := H.1 3 (by decide)
  have h4 := H.1 4 (by decide)
  have h5 := H.1 5 (by decide)
  have h6 := H.1 6 (by decide)
  have hy := H.2
  have hi : ∀ i, i < 7 → kU b i ≤ y := H.1
  unfold effB
  split
  · exact ⟨fun i q => Nat.le_trans (hi i q) (by omega), Nat.le_trans hy (by omega)⟩
  · exact ⟨fun i q => Nat.le_trans (hi i q) (by omega), Nat.le_trans hy (by omega)⟩
  · refine ⟨fun i q => ?_, show kY b + 1 ≤ y + 99 by omega⟩
    have := hi i q
    show (if i = 0 then kU b 0 + dpN (kA b) (kQ b) (kN b) else if i = 1 then kU b 1 + coN (kA b) (kQ b) (kN b) else if i = 2 then kU b 2 + nwA (kA b) (kQ b) (kN b) else if i = 4 then kU b 4 + 1 else kU b i) ≤ y + 99
    repeat' split
    all_goals omega
  · refine ⟨fun i q => ?_, show kY b + 1 ≤ y + 99 by omega⟩
    have := hi i q
    show (if i = 5 then kU b 5 + 1 else kU b i) ≤ y + 99
    split <;> omega
  · refine ⟨fun i q => ?_, Nat.le_trans hy (by omega)⟩
    have := hi i q
    show (if i = 6 then kU b 6 + 1 else kU b i) ≤ y + 99
    split <;> omega
  · refine ⟨fun i q => ?_, Nat.le_trans hy (by omega)⟩
    have := hi i q
    show (if i = 3 then kU b 3 + 1 else kU b i) ≤ y + 99
    split <;> omega
  · exact ⟨fun i q => Nat.le_trans (hi i q) (by omega), show kY b + a ≤ y + 99 by omega⟩
section CO
variable {h : Hp} {B : Nat} {b : Bk}
theorem carryOut_go (S : BkS h B) (j a : Int32) {s k : Nat} (hs : s < 3) : CL 53 [.ref B, .int j, .int (nI (97 + s)), .int (nI k), .int a] h = RF 53 14 [.ref B, .int j, .int (nI (97 + s)), .int (nI k), .int a, .int (nI s)] [.int j] h := by
  rw [e53]
  simp (disch := omega) only [indexOf_t hs, neg_nI, Nat.not_lt_zero, cond_true, cond_false, bI_ok, bI_er, bV_ok, bV_er, bR_ok, bR_er, bD_ok, bD_er, bF_ok, bF_er, thr_ap, cl_nI, lt_nI, le_nI, eq_nI, m1_lt, nI_m1, m1_nI, nI_lt_m1, add_nI, sub_nI, addm_nI, z_addm, z_subm, mul_nI, fit1_0, fit1_1, fit2_n, HI_wI, HK_wI, HL_wI, HR_wI, ckK_wI, chI_wI, sI_wI, wI_wI, lz0, lz1, lz2, lz3, lz4, lz5, lz6, lz7, lz8, lz9, lz10, lz12, lz13, lz16, lz17, lz20, lz21, lz23, lz26, lz30, lz32, lz35, lz40, lz45, lz48, lz57, lz58, lz59, lz60, lz61, lz63, lz64, lz97, lz99, lz100, lz110, lz111, lz126, lz129, lz132, lz133, lz166, lz169, lz255, lz999, lz1183, lz1800, Nat.reduceAdd, Nat.reduceLT, Nat.reduceEqDiff, Nat.not_lt_zero, Nat.lt_irrefl, ↓reduceIte, Nat.zero_add, Nat.add_zero, ne_eq, not_true_eq_false, not_false_eq_true, reduceCtorEq]
theorem carryOut_ok (S : BkS h B) (R : RK (HI h) B b) {y : Nat} (hB : Bd b y) (hy : y < 1000000000) {j s k : Nat} (hj : j < 7) (hs : s < 3) (hk : k < 1000) (a : Int32) (hf : flB b j s k a = 0) : ∃ f', CL 53 [.ref B, .int (nI j), .int (nI (97 + s)), .int (nI k), .int a] h = some (.ok (.int (nI (ansB b j s k a.toNatClampNeg))), wI h f') ∧ RK f' B (effB b j s k a.toNatClampNeg) ∧ Fr B (B + 17) (HI h) f' := by
  rw [carryOut_go S (nI j) a hs]
  have hj' : j = 0 ∨ j = 1 ∨ j = 2 ∨ j = 3 ∨ j = 4 ∨ j = 5 ∨ j = 6 := by omega
  rcases hj' with rfl | rfl | rfl | rfl | rfl | rfl | rfl
  · have hf : (if inr 1 99 a then (if kN b < 12 then 0 else 3) else 1) = 0 := hf
    cases ha : inr 1 99 a with
    | false =>
      rw [ha] at hf
      cases hf
    | true =>
      obtain ⟨i, h1, h2, rfl⟩ := inr_t (by decide) (by decide) ha
      rw [ha, if_pos rfl] at hf
      have hn : kN b < 12 := by
        by_cases q : kN b < 12
        · exact q
        · rw [if_neg q] at hf
          cases hf
      obtain ⟨g, g1, g2, g3⟩ := add_ok S.bt R.q hn (s := s) (k := k) (a := i) hs hk (by omega) (by omega)
      rw [cl_nI (by omega)]
      refine ⟨g, ?_, ⟨R.t.fr g3 (by omega), g2, fun s' hs' => ?_, fun i' hi' => ?_, ?_⟩, g3.wd (by omega) (by omega)⟩
      · refine ((e53_14 ..).trans rfl : _ = RF 53 52 [.ref B, .int (nI 0), .int (nI (97 + s)), .int (nI k), .int (nI i), .int (nI s)] [] h).trans ?_
        rw [e53_52]
        simp (disch := omega) only [S.f, S.ck, g1, cond_true, cond_false, bI_ok, bI_er, bV_ok, bV_er, bR_ok, bR_er, bD_ok, bD_er, bF_ok, bF_er, thr_ap, cl_nI, lt_nI, le_nI, eq_nI, m1_lt, nI_m1, m1_nI, nI_lt_m1, add_nI, sub_nI, addm_nI, z_addm, z_subm, mul_nI, fit1_0, fit1_1, fit2_n, HI_wI, HK_wI, HL_wI, HR_wI, ckK_wI, chI_wI, sI_wI, wI_wI, lz0, lz1, lz2, lz3, lz4, lz5, lz6, lz7, lz8, lz9, lz10, lz12, lz13, lz16, lz17, lz20, lz21, lz23, lz26, lz30, lz32, lz35, lz40, lz45, lz48, lz57, lz58, lz59, lz60, lz61, lz63, lz64, lz97, lz99, lz100, lz110, lz111, lz126, lz129, lz132, lz133, lz166, lz169, lz255, lz999, lz1183, lz1800, Nat.reduceAdd, Nat.reduceLT, Nat.reduceEqDiff, Nat.not_lt_zero, Nat.lt_irrefl, ↓reduceIte, Nat.zero_add, Nat.add_zero, ne_eq, not_true_eq_false, not_false_eq_true, reduceCtorEq]
        rfl
      · rw [g3 (B + 15) s' (by omega)]
        exact R.tr hs'
      · rw [g3 (B + 16) i' (by omega)]
        exact R.tt hi'
      · rw [g3 B 4 (by omega)]
        exact R.y
  · have hf : (if inr 1 99 a then (match la? (isQ (kQ b) s k a.toNatClampNeg) (kN b) with
      | some _ => 0
      | none => 2) else 1) = 0 := hf
    cases ha : inr 1 99 a with
    | false =>
      rw [ha] at hf
      cases hf
    | true =>
      obtain ⟨i, h1, h2, rfl⟩ := inr_t (by decide) (by decide) ha
      rw [ha, if_pos rfl] at hf
      rw [cl_nI (by omega)] at hf ⊢
      have hl := latest_ok S.bt R.q hs hk (a := i) (by omega)
      cases hq : la? (isQ (kQ b) s k i) (kN b) with
      | none =>
        rw [hq] at hf
        cases hf
      | some p =>
        rw [hq] at hl
        obtain ⟨g, g1, g2, g3⟩ := removeAt_ok S.bt R.q (la_some hq).1
        have hp := (la_some hq).1
        have n12 := R.q.1
        have he : effB b 1 s k i = rmB b p := by
          show rmB b ((la? (isQ (kQ b) s k i) (kN b)).getD 0) = rmB b p
          rw [hq]
          rfl
        rw [he]
        refine ⟨g, ?_, ⟨R.t.fr g3 (by omega), g2, fun s' hs' => ?_, fun i' hi' => ?_, ?_⟩, g3.wd (by omega) (by omega)⟩
        · refine ((e53_14 ..).trans rfl : _ = RF 53 65 [.ref B, .int (nI 1), .int (nI (97 + s)), .int (nI k), .int (nI i), .int (nI s)] [] h).trans ?_
          rw [e53_65]
          simp (disch := omega) only [S.f, S.ck, hl, oI, g1, cond_true, cond_false, bI_ok, bI_er, bV_ok, bV_er, bR_ok, bR_er, bD_ok, bD_er, bF_ok, bF_er, thr_ap, cl_nI, lt_nI, le_nI, eq_nI, m1_lt, nI_m1, m1_nI, nI_lt_m1, add_nI, sub_nI, addm_nI, z_addm, z_subm, mul_nI, fit1_0, fit1_1, fit2_n, HI_wI, HK_wI, HL_wI, HR_wI, ckK_wI, chI_wI, sI_wI, wI_wI, lz0, lz1, lz2, lz3, lz4, lz5, lz6, lz7, lz8, lz9, lz10, lz12, lz13, lz16, lz17, lz20, lz21, lz23, lz26, lz30, lz32, lz35, lz40, lz45, lz48, lz57, lz58, lz59, lz60, lz61, lz63, lz64, lz97, lz99, lz100, lz110, lz111, lz126, lz129, lz132, lz133, lz166, lz169, lz255, lz999, lz1183, lz1800, Nat.reduceAdd, Nat.reduceLT, Nat.reduceEqDiff, Nat.not_lt_zero, Nat.lt_irrefl, ↓reduceIte, Nat.zero_add, Nat.add_zero, ne_eq, not_true_eq_false, not_false_eq_true, reduceCtorEq]
          rfl
        · rw [g3 (B + 15) s' (by omega)]
          exact R.tr hs'
        · rw [g3 (B + 16) i' (by omega)]
          exact R.tt hi'
        · rw [g3 B 4 (by omega)]
          exact R.y
  · have hf : (if tot (kA b) + nwA (kA b) (kQ b) (kN b) ≤ 30 then 0 else 3) = 0 := hf
    have hr : tot (kA b) + nwA (kA b) (kQ b) (kN b) ≤ 30 := by
      by_cases q : tot (kA b) + nwA (kA b) (kQ b) (kN b) ≤ 30
      · exact q
      · rw [if_neg q] at hf
        cases hf
    obtain ⟨g, g1, g2, g3⟩ := count_ok S R hB hy hr
    refine ⟨g, ?_, g2, g3⟩
    refine ((e53_14 ..).trans rfl : _ = RF 53 85 [.ref B, .int (nI 2), .int (nI (97 + s)), .int (nI k), .int a, .int (nI s)] [] h).trans ?_
    rw [e53_85]
    simp (disch := omega) only [S.f, S.ck, g1, cond_true, cond_false, bI_ok, bI_er, bV_ok, bV_er, bR_ok, bR_er, bD_ok, bD_er, bF_ok, bF_er, thr_ap, cl_nI, lt_nI, le_nI, eq_nI, m1_lt, nI_m1, m1_nI, nI_lt_m1, add_nI, sub_nI, addm_nI, z_addm, z_subm, mul_nI, fit1_0, fit1_1, fit2_n, HI_wI, HK_wI, HL_wI, HR_wI, ckK_wI, chI_wI, sI_wI, wI_wI, lz0, lz1, lz2, lz3, lz4, lz5, lz6, lz7, lz8, lz9, lz10, lz12, lz13, lz16, lz17, lz20, lz21, lz23, lz26, lz30, lz32, lz35, lz40, lz45, lz48, lz57, lz58, lz59, lz60, lz61, lz63, lz64, lz97, lz99, lz100, lz110, lz111, lz126, lz129, lz132, lz133, lz166, lz169, lz255, lz999, lz1183, lz1800, Nat.reduceAdd, Nat.reduceLT, Nat.reduceEqDiff, Nat.not_lt_zero, Nat.lt_irrefl, ↓reduceIte, Nat.zero_add, Nat.add_zero, ne_eq, not_true_eq_false, not_false_eq_true, reduceCtorEq]
    rfl
  · obtain ⟨g, g1, g2, g3⟩ := forget_ok S R
    refine ⟨g, ?_, g2, g3⟩
    refine ((e53_14 ..).trans rfl : _ = RF 53 90 [.ref B, .int (nI 3), .int (nI (97 + s)), .int (nI k), .int a, .int (nI s)] [] h).trans ?_
    rw [e53_90]
    simp (disch := omega) only [S.f, S.ck, g1, cond_true, cond_false, bI_ok, bI_er, bV_ok, bV_er, bR_ok, bR_er, bD_ok, bD_er, bF_ok, bF_er, thr_ap, cl_nI, lt_nI, le_nI, eq_nI, m1_lt, nI_m1, m1_nI, nI_lt_m1, add_nI, sub_nI, addm_nI, z_addm, z_subm, mul_nI, fit1_0, fit1_1, fit2_n, HI_wI, HK_wI, HL_wI, HR_wI, ckK_wI, chI_wI, sI_wI, wI_wI, lz0, lz1, lz2, lz3, lz4, lz5, lz6, lz7, lz8, lz9, lz10, lz12, lz13, lz16, lz17, lz20, lz21, lz23, lz26, lz30, lz32, lz35, lz40, lz45, lz48, lz57, lz58, lz59, lz60, lz61, lz63, lz64, lz97, lz99, lz100, lz110, lz111, lz126, lz129, lz132, lz133, lz166, lz169, lz255, lz999, lz1183, lz1800, Nat.reduceAdd, Nat.reduceLT, Nat.reduceEqDiff, Nat.not_lt_zero, Nat.lt_irrefl, ↓reduceIte, Nat.zero_add, Nat.add_zero, ne_eq, not_true_eq_false, not_false_eq_true, reduceCtorEq]
    rfl
  · have hf : (if kA b s k = 0 then 2 else if stA (kA b) k = 100 then 0 else 3) = 0 := hf
    have h0 : 0 < kA b s k := by
      by_cases q : kA b s k = 0
      · rw [if_pos q] at hf
        cases hf
      · omega
    obtain ⟨g, g1, g2, g3⟩ := settleFor_ok S R hs hk h0
    refine ⟨g, ?_, g2, g3⟩
    refine ((e53_14 ..).trans rfl : _ = RF 53 95 [.ref B, .int (nI 4), .int (nI (97 + s)), .int (nI k), .int a, .int (nI s)] [] h).trans ?_
    rw [e53_95]
    simp (disch := omega) only [S.f, S.ck, g1, cond_true, cond_false, bI_ok, bI_er, bV_ok, bV_er, bR_ok, bR_er, bD_ok, bD_er, bF_ok, bF_er, thr_ap, cl_nI, lt_nI, le_nI, eq_nI, m1_lt, nI_m1, m1_nI, nI_lt_m1, add_nI, sub_nI, addm_nI, z_addm, z_subm, mul_nI, fit1_0, fit1_1, fit2_n, HI_wI, HK_wI, HL_wI, HR_wI, ckK_wI, chI_wI, sI_wI, wI_wI, lz0, lz1, lz2, lz3, lz4, lz5, lz6, lz7, lz8, lz9, lz10, lz12, lz13, lz16, lz17, lz20, lz21, lz23, lz26, lz30, lz32, lz35, lz40, lz45, lz48, lz57, lz58, lz59, lz60, lz61, lz63, lz64, lz97, lz99, lz100, lz110, lz111, lz126, lz129, lz132, lz133, lz166, lz169, lz255, lz999, lz1183, lz1800, Nat.reduceAdd, Nat.reduceLT, Nat.reduceEqDiff, Nat.not_lt_zero, Nat.lt_irrefl, ↓reduceIte, Nat.zero_add, Nat.add_zero, ne_eq, not_true_eq_false, not_false_eq_true, reduceCtorEq]
    rfl
  · have hf : (if kA b s k = 0 then 2 else 0) = 0 := hf
    have h0 : 0 < kA b s k := by
      by_cases q : kA b s k = 0
      · rw [if_pos q] at hf
        cases hf
      · omega
    obtain ⟨g, g1, g2, g3⟩ := dropRecord_ok S R hs hk h0
    refine ⟨g, ?_, g2, g3⟩
    refine ((e53_14 ..).trans rfl : _ = RF 53 103 [.ref B, .int (nI 5), .int (nI (97 + s)), .int (nI k), .int a, .int (nI s)] [] h).trans ?_
    rw [e53_103]
    simp (disch := omega) only [S.f, S.ck, g1, cond_true, cond_false, bI_ok, bI_er, bV_ok, bV_er, bR_ok, bR_er, bD_ok, bD_er, bF_ok, bF_er, thr_ap, cl_nI, lt_nI, le_nI, eq_nI, m1_lt, nI_m1, m1_nI, nI_lt_m1, add_nI, sub_nI, addm_nI, z_addm, z_subm, mul_nI, fit1_0, fit1_1, fit2_n, HI_wI, HK_wI, HL_wI, HR_wI, ckK_wI, chI_wI, sI_wI, wI_wI, lz0, lz1, lz2, lz3, lz4, lz5, lz6, lz7, lz8, lz9, lz10, lz12, lz13, lz16, lz17, lz20, lz21, lz23, lz26, lz30, lz32, lz35, lz40, lz45, lz48, lz57, lz58, lz59, lz60, lz61, lz63, lz64, lz97, lz99, lz100, lz110, lz111, lz126, lz129, lz132, lz133, lz166, lz169, lz255, lz999, lz1183, lz1800, Nat.reduceAdd, Nat.reduceLT, Nat.reduceEqDiff, Nat.not_lt_zero, Nat.lt_irrefl, ↓reduceIte, Nat.zero_add, Nat.add_zero, ne_eq, not_true_eq_false, not_false_eq_true, reduceCtorEq]
    rfl
  · have hf : (if inr 1 99 a then 0 else 1) = 0 := hf
    cases ha : inr 1 99 a with
    | false =>
      rw [ha] at hf
      cases hf
    | true =>
      obtain ⟨i, h1, h2, rfl⟩ := inr_t (by decide) (by decide) ha
      rw [cl_nI (by omega)]
      have hF : Fr B (B + 17) (HI h) (u2 (HI h) B 4 (nI (kY b + i))) := Fr.rf.u2 (by omega) (by omega)
      refine ⟨u2 (HI h) B 4 (nI (kY b + i)), ?_, ⟨R.t.cong (fun i x hi => w2_ne (by omega)), R.q.cong (fun i x hi => w2_ne (by omega)), fun s' hs' => ?_, fun i' hi' => ?_, w2_eq _ _ _ _⟩, hF⟩
      · refine ((e53_14 ..).trans rfl : _ = RF 53 111 [.ref B, .int (nI 6), .int (nI (97 + s)), .int (nI k), .int (nI i), .int (nI s)] [] h).trans ?_
        rw [e53_111]
        simp (disch := omega) only [S.f, S.ck, R.y, w2_eq, cond_true, cond_false, bI_ok, bI_er, bV_ok, bV_er, bR_ok, bR_er, bD_ok, bD_er, bF_ok, bF_er, thr_ap, cl_nI, lt_nI, le_nI, eq_nI, m1_lt, nI_m1, m1_nI, nI_lt_m1, add_nI, sub_nI, addm_nI, z_addm, z_subm, mul_nI, fit1_0, fit1_1, fit2_n, HI_wI, HK_wI, HL_wI, HR_wI, ckK_wI, chI_wI, sI_wI, wI_wI, lz0, lz1, lz2, lz3, lz4, lz5, lz6, lz7, lz8, lz9, lz10, lz12, lz13, lz16, lz17, lz20, lz21, lz23, lz26, lz30, lz32, lz35, lz40, lz45, lz48, lz57, lz58, lz59, lz60, lz61, lz63, lz64, lz97, lz99, lz100, lz110, lz111, lz126, lz129, lz132, lz133, lz166, lz169, lz255, lz999, lz1183, lz1800, Nat.reduceAdd, Nat.reduceLT, Nat.reduceEqDiff, Nat.not_lt_zero, Nat.lt_irrefl, ↓reduceIte, Nat.zero_add, Nat.add_zero, ne_eq, not_true_eq_false, not_false_eq_true, reduceCtorEq]
        rfl
      · rw [w2_ne (by omega)]
        exact R.tr hs'
      · rw [w2_ne (by omega)]
        exact R.tt hi'
end CO
