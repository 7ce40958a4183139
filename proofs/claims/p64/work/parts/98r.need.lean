/-! THE CLASS: matchingSize, isNeeded -/
section MG
variable {h : Hp} {b : Bk}
theorem Fm.t {f f' : Nat → Nat → Int32} (H : Fm f f') {A D : AF} (R : RT f 33 A D) : RT f' 33 A D := R.cong (fun i x hi => H (33 + i) x (by omega))
theorem Fm.tk {f f' : Nat → Nat → Int32} (H : Fm f f') : tn f' 33 = tn f 33 ∧ ∀ r, tk f' 33 r = tk f 33 r := ⟨rd_cg (H 33 3 (by omega)), fun r => rd_cg (H 34 r (by omega))⟩
theorem er_cg {f f' : Nat → Nat → Int32} (H : Fm f f') (A : AF) (s o : Nat) : er A f' 33 s o = er A f 33 s o := by
  obtain ⟨h1, h2⟩ := H.tk
  funext i j
  unfold er
  rw [h1, h2, h2]
theorem Fm.trans {f g k : Nat → Nat → Int32} (H : Fm f g) (K : Fm g k) : Fm f k := fun a x q => (K a x q).trans (H a x q)
theorem Fq.m {f f' : Nat → Nat → Int32} (H : Fq f f') : Fm f f' := fun a x q => H a x (by omega) (by omega) (by omega)
theorem tb33 (S : RrS h) : TbS h 33 ∧ HR h 32 0 = 33 := ⟨S.bk.t, S.bk.f.2.1⟩
theorem load33 (S : RrS h) (M : MgS h) {A D : AF} {f : Nat → Nat → Int32} (R : RT f 33 A D) {s o : Nat} (hs : s < 3) (ho : o < 3) (hso : s ≠ o) : ∃ f', CL 112 [.ref 227, .ref 33, .int (nI s), .int (nI o)] (wI h f) = some (.ok .null, wI h f') ∧ LD f' (tn f 33) (er A f 33 s o) ∧ Fm f f' := by
  obtain ⟨f', h1, h2, h3⟩ := load_ok M (tb33 S).1 R (by decide) hs ho hso
  exact ⟨f', h1, h2, fun a x q => h3 a x (by omega) (by omega) (by omega)⟩
theorem sizeOne_ok (S : RrS h) (M : MgS h) {A D : AF} {f : Nat → Nat → Int32} (R : RT f 33 A D) {s o : Nat} (hs : s < 3) (ho : o < 3) (hso : s ≠ o) : ∃ z f', CL 116 [.ref 31, .int (nI s), .int (nI o)] (wI h f) = some (.ok (.int (nI z)), wI h f') ∧ MCk (ek A s o 1000) 1000 z ∧ z ≤ 30 ∧ Fm f f' := by
  have n30 := R.n30
  have t1 := (tb33 S).2
  obtain ⟨g, g1, ⟨g2, g3, g4⟩, g5⟩ := load33 S M R hs ho hso
  obtain ⟨z, f', k1, k2, k3, k4⟩ := growOne_ok M (er_LR A f 33 s o) (by omega) g2 (fun i j hi hj => g3 i j hi (by omega)) g4
  refine ⟨z, f', ?_, IX_key R hs ho (fun i j => ?_) k2, by omega, g5.trans k4.m⟩
  · rw [e116]
    simp (disch := omega) only [S.f, S.ks, M.f, t1, g1, k1, cond_true, cond_false, bI_ok, bI_er, bV_ok, bV_er, bR_ok, bR_er, bD_ok, bD_er, bF_ok, bF_er, thr_ap, cl_nI, lt_nI, le_nI, eq_nI, m1_lt, nI_m1, m1_nI, nI_lt_m1, add_nI, sub_nI, addm_nI, z_addm, z_subm, mul_nI, fit1_0, fit1_1, fit2_n, HI_wI, HK_wI, HL_wI, HR_wI, ckK_wI, chI_wI, sI_wI, wI_wI, lz0, lz1, lz2, lz3, lz4, lz5, lz6, lz7, lz8, lz9, lz10, lz12, lz13, lz16, lz17, lz20, lz21, lz23, lz26, lz30, lz32, lz35, lz40, lz45, lz48, lz57, lz58, lz59, lz60, lz61, lz63, lz64, lz97, lz99, lz100, lz110, lz111, lz126, lz129, lz132, lz133, lz166, lz169, lz255, lz999, lz1183, lz1800, Nat.reduceAdd, Nat.reduceLT, Nat.reduceEqDiff, Nat.not_lt_zero, Nat.lt_irrefl, ↓reduceIte, Nat.zero_add, Nat.add_zero, ne_eq, not_true_eq_false, not_false_eq_true, reduceCtorEq]
  · cases hq : er A f 33 s o i j with
    | false => rfl
    | true =>
      have hi := (er_t hq).1.1
      have := R.N.k9 (show i < 30 by omega)
      rw [decide_eq_true (by omega)]
      rfl
theorem matchingC_t (S : RrS h) (M : MgS h) (R : RK (HI h) 32 b) {s o : Nat} (hs : s < 3) (ho : o < 3) (hso : s ≠ o) : ∃ z f', CL 135 [.ref 31, .int (nI (97 + s)), .int (nI (97 + o))] h = some (.ok (.int (nI z)), wI h f') ∧ MCk (ek (kA b) s o 1000) 1000 z ∧ z ≤ 30 ∧ Fm (HI h) f' := by
  have Rt : RT (HI h) 33 (kA b) (kD b) := R.t
  obtain ⟨z, f', k1, k2, k3, k4⟩ := sizeOne_ok S M Rt hs ho hso
  rw [wI_HI] at k1
  refine ⟨z, f', ?_, k2, k3, k4⟩
  rw [e135]
  simp (disch := omega) only [S.f, rqS_t hs, rqO_t hs ho hso, k1, cond_true, cond_false, bI_ok, bI_er, bV_ok, bV_er, bR_ok, bR_er, bD_ok, bD_er, bF_ok, bF_er, thr_ap, cl_nI, lt_nI, le_nI, eq_nI, m1_lt, nI_m1, m1_nI, nI_lt_m1, add_nI, sub_nI, addm_nI, z_addm, z_subm, mul_nI, fit1_0, fit1_1, fit2_n, HI_wI, HK_wI, HL_wI, HR_wI, ckK_wI, chI_wI, sI_wI, wI_wI, lz0, lz1, lz2, lz3, lz4, lz5, lz6, lz7, lz8, lz9, lz10, lz12, lz13, lz16, lz17, lz20, lz21, lz23, lz26, lz30, lz32, lz35, lz40, lz45, lz48, lz57, lz58, lz59, lz60, lz61, lz63, lz64, lz97, lz99, lz100, lz110, lz111, lz126, lz129, lz132, lz133, lz166, lz169, lz255, lz999, lz1183, lz1800, Nat.reduceAdd, Nat.reduceLT, Nat.reduceEqDiff, Nat.not_lt_zero, Nat.lt_irrefl, ↓reduceIte, Nat.zero_add, Nat.add_zero, ne_eq, not_true_eq_false, not_false_eq_true, reduceCtorEq]
theorem matchingC_f {x y : Int32} (hb : two x y = false) : CL 135 [.ref 31, .int x, .int y] h = some (.error 1, hthr h) ∧ CL 136 [.ref 31, .int x, .int y] h = some (.error 1, hthr h) := by
  rw [e135, e136]
  cases q0 : inr 97 99 x with
  | false => exact ⟨by simp only [rqS_f q0, cond_true, cond_false, bI_ok, bI_er, bV_ok, bV_er, bR_ok, bR_er, bD_ok, bD_er, bF_ok, bF_er, thr_ap, cl_nI, lt_nI, le_nI, eq_nI, m1_lt, nI_m1, m1_nI, nI_lt_m1, add_nI, sub_nI, addm_nI, z_addm, z_subm, mul_nI, fit1_0, fit1_1, fit2_n, HI_wI, HK_wI, HL_wI, HR_wI, ckK_wI, chI_wI, sI_wI, wI_wI, lz0, lz1, lz2, lz3, lz4, lz5, lz6, lz7, lz8, lz9, lz10, lz12, lz13, lz16, lz17, lz20, lz21, lz23, lz26, lz30, lz32, lz35, lz40, lz45, lz48, lz57, lz58, lz59, lz60, lz61, lz63, lz64, lz97, lz99, lz100, lz110, lz111, lz126, lz129, lz132, lz133, lz166, lz169, lz255, lz999, lz1183, lz1800, Nat.reduceAdd, Nat.reduceLT, Nat.reduceEqDiff, Nat.not_lt_zero, Nat.lt_irrefl, ↓reduceIte, Nat.zero_add, Nat.add_zero, ne_eq, not_true_eq_false, not_false_eq_true, reduceCtorEq], by simp only [rqS_f q0, cond_true, cond_false, bI_ok, bI_er, bV_ok, bV_er, bR_ok, bR_er, bD_ok, bD_er, bF_ok, bF_er, thr_ap, cl_nI, lt_nI, le_nI, eq_nI, m1_lt, nI_m1, m1_nI, nI_lt_m1, add_nI, sub_nI, addm_nI, z_addm, z_subm, mul_nI, fit1_0, fit1_1, fit2_n, HI_wI, HK_wI, HL_wI, HR_wI, ckK_wI, chI_wI, sI_wI, wI_wI, lz0, lz1, lz2, lz3, lz4, lz5, lz6, lz7, lz8, lz9, lz10, lz12, lz13, lz16, lz17, lz20, lz21, lz23, lz26, lz30, lz32, lz35, lz40, lz45, lz48, lz57, lz58, lz59, lz60, lz61, lz63, lz64, lz97, lz99, lz100, lz110, lz111, lz126, lz129, lz132, lz133, lz166, lz169, lz255, lz999, lz1183, lz1800, Nat.reduceAdd, Nat.reduceLT, Nat.reduceEqDiff, Nat.not_lt_zero, Nat.lt_irrefl, ↓reduceIte, Nat.zero_add, Nat.add_zero, ne_eq, not_true_eq_false, not_false_eq_true, reduceCtorEq]⟩
  | true =>
    obtain ⟨i, i1, i2, rfl⟩ := inr_t (by decide) (by decide) q0
    have h1 := rqS_t (h := h) (s := i - 97) (by omega)
    rw [show 97 + (i - 97) = i by omega] at h1
    exact ⟨by simp only [h1, rqO_f hb q0, cond_true, cond_false, bI_ok, bI_er, bV_ok, bV_er, bR_ok, bR_er, bD_ok, bD_er, bF_ok, bF_er, thr_ap, cl_nI, lt_nI, le_nI, eq_nI, m1_lt, nI_m1, m1_nI, nI_lt_m1, add_nI, sub_nI, addm_nI, z_addm, z_subm, mul_nI, fit1_0, fit1_1, fit2_n, HI_wI, HK_wI, HL_wI, HR_wI, ckK_wI, chI_wI, sI_wI, wI_wI, lz0, lz1, lz2, lz3, lz4, lz5, lz6, lz7, lz8, lz9, lz10, lz12, lz13, lz16, lz17, lz20, lz21, lz23, lz26, lz30, lz32, lz35, lz40, lz45, lz48, lz57, lz58, lz59, lz60, lz61, lz63, lz64, lz97, lz99, lz100, lz110, lz111, lz126, lz129, lz132, lz133, lz166, lz169, lz255, lz999, lz1183, lz1800, Nat.reduceAdd, Nat.reduceLT, Nat.reduceEqDiff, Nat.not_lt_zero, Nat.lt_irrefl, ↓reduceIte, Nat.zero_add, Nat.add_zero, ne_eq, not_true_eq_false, not_false_eq_true, reduceCtorEq], by simp only [h1, rqO_f hb q0, cond_true, cond_false, bI_ok, bI_er, bV_ok, bV_er, bR_ok, bR_er, bD_ok, bD_er, bF_ok, bF_er, thr_ap, cl_nI, lt_nI, le_nI, eq_nI, m1_lt, nI_m1, m1_nI, nI_lt_m1, add_nI, sub_nI, addm_nI, z_addm, z_subm, mul_nI, fit1_0, fit1_1, fit2_n, HI_wI, HK_wI, HL_wI, HR_wI, ckK_wI, chI_wI, sI_wI, wI_wI, lz0, lz1, lz2, lz3, lz4, lz5, lz6, lz7, lz8, lz9, lz10, lz12, lz13, lz16, lz17, lz20, lz21, lz23, lz26, lz30, lz32, lz35, lz40, lz45, lz48, lz57, lz58, lz59, lz60, lz61, lz63, lz64, lz97, lz99, lz100, lz110, lz111, lz126, lz129, lz132, lz133, lz166, lz169, lz255, lz999, lz1183, lz1800, Nat.reduceAdd, Nat.reduceLT, Nat.reduceEqDiff, Nat.not_lt_zero, Nat.lt_irrefl, ↓reduceIte, Nat.zero_add, Nat.add_zero, ne_eq, not_true_eq_false, not_false_eq_true, reduceCtorEq]⟩
theorem needC_f (S : RrS h) (x k y : Int32) (hb : (two x y && inr 0 999 k) = false) : CL 126 [.ref 31, .int x, .int k, .int y] h = some (.error 1, hthr h) := by
  rw [e126]
  cases q0 : inr 97 99 x with
  | false => simp only [rqS_f q0, cond_true, cond_false, bI_ok, bI_er, bV_ok, bV_er, bR_ok, bR_er, bD_ok, bD_er, bF_ok, bF_er, thr_ap, cl_nI, lt_nI, le_nI, eq_nI, m1_lt, nI_m1, m1_nI, nI_lt_m1, add_nI, sub_nI, addm_nI, z_addm, z_subm, mul_nI, fit1_0, fit1_1, fit2_n, HI_wI, HK_wI, HL_wI, HR_wI, ckK_wI, chI_wI, sI_wI, wI_wI, lz0, lz1, lz2, lz3, lz4, lz5, lz6, lz7, lz8, lz9, lz10, lz12, lz13, lz16, lz17, lz20, lz21, lz23, lz26, lz30, lz32, lz35, lz40, lz45, lz48, lz57, lz58, lz59, lz60, lz61, lz63, lz64, lz97, lz99, lz100, lz110, lz111, lz126, lz129, lz132, lz133, lz166, lz169, lz255, lz999, lz1183, lz1800, Nat.reduceAdd, Nat.reduceLT, Nat.reduceEqDiff, Nat.not_lt_zero, Nat.lt_irrefl, ↓reduceIte, Nat.zero_add, Nat.add_zero, ne_eq, not_true_eq_false, not_false_eq_true, reduceCtorEq]
  | true =>
    cases q1 : two x y with
    | false =>
      obtain ⟨i, i1, i2, rfl⟩ := inr_t (by decide) (by decide) q0
      have h1 := rqS_t (h := h) (s := i - 97) (by omega)
      rw [show 97 + (i - 97) = i by omega] at h1
      simp only [h1, rqO_f q1 q0, cond_true, cond_false, bI_ok, bI_er, bV_ok, bV_er, bR_ok, bR_er, bD_ok, bD_er, bF_ok, bF_er, thr_ap, cl_nI, lt_nI, le_nI, eq_nI, m1_lt, nI_m1, m1_nI, nI_lt_m1, add_nI, sub_nI, addm_nI, z_addm, z_subm, mul_nI, fit1_0, fit1_1, fit2_n, HI_wI, HK_wI, HL_wI, HR_wI, ckK_wI, chI_wI, sI_wI, wI_wI, lz0, lz1, lz2, lz3, lz4, lz5, lz6, lz7, lz8, lz9, lz10, lz12, lz13, lz16, lz17, lz20, lz21, lz23, lz26, lz30, lz32, lz35, lz40, lz45, lz48, lz57, lz58, lz59, lz60, lz61, lz63, lz64, lz97, lz99, lz100, lz110, lz111, lz126, lz129, lz132, lz133, lz166, lz169, lz255, lz999, lz1183, lz1800, Nat.reduceAdd, Nat.reduceLT, Nat.reduceEqDiff, Nat.not_lt_zero, Nat.lt_irrefl, ↓reduceIte, Nat.zero_add, Nat.add_zero, ne_eq, not_true_eq_false, not_false_eq_true, reduceCtorEq]
    | true =>
      rw [q1, Bool.true_and] at hb
      obtain ⟨s, o, hs, ho, hso, rfl, rfl⟩ := two_t q1
      simp only [S.f, rqS_t hs, rqO_t hs ho hso, rqRec_f (nI (97 + s)) k (.inr hb), cond_true, cond_false, bI_ok, bI_er, bV_ok, bV_er, bR_ok, bR_er, bD_ok, bD_er, bF_ok, bF_er, thr_ap, cl_nI, lt_nI, le_nI, eq_nI, m1_lt, nI_m1, m1_nI, nI_lt_m1, add_nI, sub_nI, addm_nI, z_addm, z_subm, mul_nI, fit1_0, fit1_1, fit2_n, HI_wI, HK_wI, HL_wI, HR_wI, ckK_wI, chI_wI, sI_wI, wI_wI, lz0, lz1, lz2, lz3, lz4, lz5, lz6, lz7, lz8, lz9, lz10, lz12, lz13, lz16, lz17, lz20, lz21, lz23, lz26, lz30, lz32, lz35, lz40, lz45, lz48, lz57, lz58, lz59, lz60, lz61, lz63, lz64, lz97, lz99, lz100, lz110, lz111, lz126, lz129, lz132, lz133, lz166, lz169, lz255, lz999, lz1183, lz1800, Nat.reduceAdd, Nat.reduceLT, Nat.reduceEqDiff, Nat.not_lt_zero, Nat.lt_irrefl, ↓reduceIte, Nat.zero_add, Nat.add_zero, ne_eq, not_true_eq_false, not_false_eq_true, reduceCtorEq]
theorem needC_n (S : RrS h) (R : RK (HI h) 32 b) {s o k : Nat} (hs : s < 3) (ho : o < 3) (hso : s ≠ o) (hk : k < 1000) (h0 : kA b s k = 0) : CL 126 [.ref 31, .int (nI (97 + s)), .int (nI k), .int (nI (97 + o))] h = some (.error 4, hthr h) := by
  rw [e126]
  simp (disch := omega) only [S.f, rqS_t hs, rqO_t hs ho hso, rqRec_n S.qs R hs hk h0, cond_true, cond_false, bI_ok, bI_er, bV_ok, bV_er, bR_ok, bR_er, bD_ok, bD_er, bF_ok, bF_er, thr_ap, cl_nI, lt_nI, le_nI, eq_nI, m1_lt, nI_m1, m1_nI, nI_lt_m1, add_nI, sub_nI, addm_nI, z_addm, z_subm, mul_nI, fit1_0, fit1_1, fit2_n, HI_wI, HK_wI, HL_wI, HR_wI, ckK_wI, chI_wI, sI_wI, wI_wI, lz0, lz1, lz2, lz3, lz4, lz5, lz6, lz7, lz8, lz9, lz10, lz12, lz13, lz16, lz17, lz20, lz21, lz23, lz26, lz30, lz32, lz35, lz40, lz45, lz48, lz57, lz58, lz59, lz60, lz61, lz63, lz64, lz97, lz99, lz100, lz110, lz111, lz126, lz129, lz132, lz133, lz166, lz169, lz255, lz999, lz1183, lz1800, Nat.reduceAdd, Nat.reduceLT, Nat.reduceEqDiff, Nat.not_lt_zero, Nat.lt_irrefl, ↓reduceIte, Nat.zero_add, Nat.add_zero, ne_eq, not_true_eq_false, not_false_eq_true, reduceCtorEq]
theorem needC_t (S : RrS h) (M : MgS h) (R : RK (HI h) 32 b) {s o k : Nat} (hs : s < 3) (ho : o < 3) (hso : s ≠ o) (hk : k < 1000) (h0 : 0 < kA b s k) : ∃ z z' f', CL 126 [.ref 31, .int (nI (97 + s)), .int (nI k), .int (nI (97 + o))] h = some (.ok (.int (nI (b2n (decide (z' < z))))), wI h f') ∧ MCk (ek (kA b) s o 1000) 1000 z ∧ MCk (ek (kA b) s o k) 1000 z' ∧ Fm (HI h) f' := by
  have Rt : RT (HI h) 33 (kA b) (kD b) := R.t
  have n30 := Rt.n30
  have t1 := (tb33 S).2
  obtain ⟨r, r1, r2, r3, r4⟩ := rqRec_t S.qs R hs hk h0
  have r1 : r < tn (HI h) 33 := r1
  have r2 : tk (HI h) 33 r = k := r2
  obtain ⟨z, f1, k1, k2, k3, k4⟩ := sizeOne_ok S M Rt hs ho hso
  rw [wI_HI] at k1
  have R1 := k4.t Rt
  obtain ⟨f2, g1, ⟨g2, g3, g4⟩, g5⟩ := load33 S M R1 hs ho hso
  have e1 := k4.tk
  have L := er_LR (kA b) f1 33 s o
  have hr : ∀ i j, i < tn f1 33 → j < tn f1 33 → bt (u2 f2 228 r (nI 0) 228 i) j = (er (kA b) f1 33 s o i j && decide (tk f1 33 i ≠ k)) := fun i j hi hj => by
    by_cases q : i = r
    · subst q
      rw [w2_eq, bt_0, e1.2, r2, decide_eq_false (by omega), Bool.and_false]
    · rw [w2_ne (by omega), g3 i j hi (by have := e1.1; omega)]
      have : tk f1 33 i ≠ k := fun z => q (R1.inj hi (by rw [e1.1]; exact r1) (by rw [z, e1.2, r2]))
      rw [decide_eq_true this, Bool.and_true]
  have L' : LR (fun i j => er (kA b) f1 33 s o i j && decide (tk f1 33 i ≠ k)) (tn f1 33) := ⟨fun i j hij => by
    rw [Bool.and_eq_true] at hij
    exact L.1 i j hij.1, fun i j k' hij => by
    rw [Bool.and_eq_true] at hij
    dsimp only
    rw [L.2 i j k' hij.1, Bool.false_and]⟩
  obtain ⟨z', f3, y1, y2, y3, y4⟩ := growOne_ok M (f := u2 f2 228 r (nI 0)) L' (by have := e1.1; omega) ((w2_ne (by omega)).trans g2) hr (fun i hi => (w2_ne (by omega)).trans (g4 i hi))
  have hr30 : r < 30 := by omega
  refine ⟨z, z', f3, ?_, k2, IX_key R1 hs ho (fun i j => rfl) y2, (k4.trans g5).trans (Fm.trans (fun a x q => w2_ne (by omega)) y4.m)⟩
  have hlv : CL 125 [.ref 227, .int (nI r)] (wI h f2) = some (.ok .null, wI h (u2 f2 228 r (nI 0))) := by
    rw [e125]
    simp (disch := omega) only [M.f, M.c hr30, cond_true, cond_false, bI_ok, bI_er, bV_ok, bV_er, bR_ok, bR_er, bD_ok, bD_er, bF_ok, bF_er, thr_ap, cl_nI, lt_nI, le_nI, eq_nI, m1_lt, nI_m1, m1_nI, nI_lt_m1, add_nI, sub_nI, addm_nI, z_addm, z_subm, mul_nI, fit1_0, fit1_1, fit2_n, HI_wI, HK_wI, HL_wI, HR_wI, ckK_wI, chI_wI, sI_wI, wI_wI, lz0, lz1, lz2, lz3, lz4, lz5, lz6, lz7, lz8, lz9, lz10, lz12, lz13, lz16, lz17, lz20, lz21, lz23, lz26, lz30, lz32, lz35, lz40, lz45, lz48, lz57, lz58, lz59, lz60, lz61, lz63, lz64, lz97, lz99, lz100, lz110, lz111, lz126, lz129, lz132, lz133, lz166, lz169, lz255, lz999, lz1183, lz1800, Nat.reduceAdd, Nat.reduceLT, Nat.reduceEqDiff, Nat.not_lt_zero, Nat.lt_irrefl, ↓reduceIte, Nat.zero_add, Nat.add_zero, ne_eq, not_true_eq_false, not_false_eq_true, reduceCtorEq]
  have hz' : z' ≤ 30 := by have := e1.1; omega
  rw [e126]
  by_cases q : z' < z
  · rw [decide_eq_true q, b2t]
    simp (disch := omega) only [S.f, S.ks, M.f, t1, rqS_t hs, rqO_t hs ho hso, r4, k1, g1, hlv, y1, q, cond_true, cond_false, bI_ok, bI_er, bV_ok, bV_er, bR_ok, bR_er, bD_ok, bD_er, bF_ok, bF_er, thr_ap, cl_nI, lt_nI, le_nI, eq_nI, m1_lt, nI_m1, m1_nI, nI_lt_m1, add_nI, sub_nI, addm_nI, z_addm, z_subm, mul_nI, fit1_0, fit1_1, fit2_n, HI_wI, HK_wI, HL_wI, HR_wI, ckK_wI, chI_wI, sI_wI, wI_wI, lz0, lz1, lz2, lz3, lz4, lz5, lz6, lz7, lz8, lz9, lz10, lz12, lz13, lz16, lz17, lz20, lz21, lz23, lz26, lz30, lz32, lz35, lz40, lz45, lz48, lz57, lz58, lz59, lz60, lz61, lz63, lz64, lz97, lz99, lz100, lz110, lz111, lz126, lz129, lz132, lz133, lz166, lz169, lz255, lz999, lz1183, lz1800, Nat.reduceAdd, Nat.reduceLT, Nat.reduceEqDiff, Nat.not_lt_zero, Nat.lt_irrefl, ↓reduceIte, Nat.zero_add, Nat.add_zero, ne_eq, not_true_eq_false, not_false_eq_true, reduceCtorEq]
  · rw [decide_eq_false q, b2f]
    simp (disch := omega) only [S.f, S.ks, M.f, t1, rqS_t hs, rqO_t hs ho hso, r4, k1, g1, hlv, y1, q, cond_true, cond_false, bI_ok, bI_er, bV_ok, bV_er, bR_ok, bR_er, bD_ok, bD_er, bF_ok, bF_er, thr_ap, cl_nI, lt_nI, le_nI, eq_nI, m1_lt, nI_m1, m1_nI, nI_lt_m1, add_nI, sub_nI, addm_nI, z_addm, z_subm, mul_nI, fit1_0, fit1_1, fit2_n, HI_wI, HK_wI, HL_wI, HR_wI, ckK_wI, chI_wI, sI_wI, wI_wI, lz0, lz1, lz2, lz3, lz4, lz5, lz6, lz7, lz8, lz9, lz10, lz12, lz13, lz16, lz17, lz20, lz21, lz23, lz26, lz30, lz32, lz35, lz40, lz45, lz48, lz57, lz58, lz59, lz60, lz61, lz63, lz64, lz97, lz99, lz100, lz110, lz111, lz126, lz129, lz132, lz133, lz166, lz169, lz255, lz999, lz1183, lz1800, Nat.reduceAdd, Nat.reduceLT, Nat.reduceEqDiff, Nat.not_lt_zero, Nat.lt_irrefl, ↓reduceIte, Nat.zero_add, Nat.add_zero, ne_eq, not_true_eq_false, not_false_eq_true, reduceCtorEq]
end MG
