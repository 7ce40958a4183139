/-! THE REFERENCE: a batch closed -/
section MC
variable {h : Hp} {b : Bk}
theorem oc_at (S : MdS h) (R : RN (HI h 242) b) {f : Nat → Nat → Int32} (hf : ∀ k, k = 1 ∨ k = 2 ∨ 13 ≤ k → f 242 k = HI h 242 k) {c : Nat} (hc : c < 112) : CL 223 [.ref 241, .int (nI c)] (wI h f) = some (.ok (.int (nI (sumN (fun j => b2n (decide (oc (kA b) (kQ b) j = c))) (kN b)))), wI h f) :=
  outcomes_ok (S.wI f) (R.1.congr (fun k hk => hf k (by omega))) (R.q.cong (fun k _ hk => hf k (by omega))) hc
theorem closesAll_f (S : MdS h) (R : RN (HI h 242) b) (hr : ¬(tot (kA b) + nwA (kA b) (kQ b) (kN b) ≤ 30)) : CL 228 [.ref 241] h = some (.ok (.int (nI 0)), wI h (u2 (HI h) 241 16 (nI 1))) := by
  have h1 := closes_ok S R.1 R.q
  rw [decide_eq_false hr, b2f] at h1
  have hg := goes_ok S false
  rw [b2f, show thN false true true = 1 from rfl] at hg
  rw [e228]
  simp (disch := omega) only [S.f, h1, hg, cond_true, cond_false, bI_ok, bI_er, bV_ok, bV_er, bR_ok, bR_er, bD_ok, bD_er, bF_ok, bF_er, thr_ap, cl_nI, lt_nI, le_nI, eq_nI, m1_lt, nI_m1, m1_nI, nI_lt_m1, add_nI, sub_nI, addm_nI, z_addm, z_subm, mul_nI, fit1_0, fit1_1, fit2_n, HI_wI, HK_wI, HL_wI, HR_wI, ckK_wI, chI_wI, sI_wI, wI_wI, lz0, lz1, lz2, lz3, lz4, lz5, lz6, lz7, lz8, lz9, lz10, lz12, lz13, lz16, lz17, lz20, lz21, lz23, lz26, lz30, lz32, lz35, lz40, lz45, lz48, lz57, lz58, lz59, lz60, lz61, lz63, lz64, lz97, lz99, lz100, lz110, lz111, lz126, lz129, lz132, lz133, lz166, lz169, lz255, lz999, lz1183, lz1800, Nat.reduceAdd, Nat.reduceLT, Nat.reduceEqDiff, Nat.not_lt_zero, Nat.lt_irrefl, ↓reduceIte, Nat.zero_add, Nat.add_zero, ne_eq, not_true_eq_false, not_false_eq_true, reduceCtorEq]
theorem closesAll_t (S : MdS h) (R : RN (HI h 242) b) {y : Nat} (hB : Bd b y) (hy : y < 1000000000) (hr : tot (kA b) + nwA (kA b) (kQ b) (kN b) ≤ 30) : ∃ f', CL 228 [.ref 241] h = some (.ok (.int (nI (nwA (kA b) (kQ b) (kN b)))), wI h f') ∧ RN (f' 242) (clB b) ∧ f' 241 16 = nI 0 ∧ FM (HI h) f' := by
  have n12 := R.q.1
  have hqb : ∀ i, i < kN b → (kQ b i).1 < 3 ∧ (kQ b i).2.1 < 1000 ∧ 0 < (kQ b i).2.2 := fun i hi => by
    obtain ⟨_, _, _, c1, c2, c3, c4⟩ := R.q.2.2 i hi
    exact ⟨c1, c2, c3⟩
  have uy := hB.2
  have h1 := closes_ok S R.1 R.q
  rw [decide_eq_true hr, b2t] at h1
  have hg := goes_ok S true
  rw [b2t, show thN true true true = 0 from rfl] at hg
  have o1 : CL 223 [.ref 241, .int (nI 110)] (wI h (u2 (HI h) 241 16 (nI 0))) = some (.ok (.int (nI (nwA (kA b) (kQ b) (kN b)))), wI h (u2 (HI h) 241 16 (nI 0))) := oc_at S R (fun k hk => w2_ne (by omega)) (by decide)
  have o2 : CL 223 [.ref 241, .int (nI 100)] (wI h (u2 (HI h) 241 16 (nI 0))) = some (.ok (.int (nI (dpN (kA b) (kQ b) (kN b)))), wI h (u2 (HI h) 241 16 (nI 0))) := oc_at S R (fun k hk => w2_ne (by omega)) (by decide)
  have o3 : CL 223 [.ref 241, .int (nI 99)] (wI h (u2 (u2 (HI h) 241 16 (nI 0)) 242 3 (nI (kU b 0 + dpN (kA b) (kQ b) (kN b))))) = some (.ok (.int (nI (coN (kA b) (kQ b) (kN b)))), wI h (u2 (u2 (HI h) 241 16 (nI 0)) 242 3 (nI (kU b 0 + dpN (kA b) (kQ b) (kN b))))) := oc_at S R (fun k hk => by rw [w2_ne (by omega), w2_ne (by omega)]) (by decide)
  have t0 : HI h 242 3 = nI (kU b 0) := R.2.2.2.1 0 (by decide)
  have t1 : HI h 242 4 = nI (kU b 1) := R.2.2.2.1 1 (by decide)
  have t2 : HI h 242 5 = nI (kU b 2) := R.2.2.2.1 2 (by decide)
  have t4 : HI h 242 7 = nI (kU b 4) := R.2.2.2.1 4 (by decide)
  generalize hg0 : u2 (u2 (u2 (u2 (HI h) 241 16 (nI 0)) 242 3 (nI (kU b 0 + dpN (kA b) (kQ b) (kN b)))) 242 4 (nI (kU b 1 + coN (kA b) (kQ b) (kN b)))) 242 5 (nI (kU b 2 + nwA (kA b) (kQ b) (kN b))) = g0
  have hg0n : ∀ a x, ¬(a = 241 ∧ x = 16) → ¬(a = 242 ∧ 3 ≤ x ∧ x < 6) → g0 a x = HI h a x := fun a x q1 q2 => by
    rw [← hg0, w2_ne (by omega), w2_ne (by omega), w2_ne (by omega), w2_ne q1]
  have hst : CL 228 [.ref 241] h = RF 228 62 [.ref 241, .int (nI (nwA (kA b) (kQ b) (kN b))), .int (nI 0)] [] (wI h g0) := by
    rw [e228, ← hg0]
    simp (disch := omega) only [S.f, S.cw (show 3 < 169 by decide), S.cw (show 4 < 169 by decide), S.cw (show 5 < 169 by decide), h1, hg, o1, o2, o3, t0, t1, t2, w2_ne, Nat.succ_ne_self, cond_true, cond_false, bI_ok, bI_er, bV_ok, bV_er, bR_ok, bR_er, bD_ok, bD_er, bF_ok, bF_er, thr_ap, cl_nI, lt_nI, le_nI, eq_nI, m1_lt, nI_m1, m1_nI, nI_lt_m1, add_nI, sub_nI, addm_nI, z_addm, z_subm, mul_nI, fit1_0, fit1_1, fit2_n, HI_wI, HK_wI, HL_wI, HR_wI, ckK_wI, chI_wI, sI_wI, wI_wI, lz0, lz1, lz2, lz3, lz4, lz5, lz6, lz7, lz8, lz9, lz10, lz12, lz13, lz16, lz17, lz20, lz21, lz23, lz26, lz30, lz32, lz35, lz40, lz45, lz48, lz57, lz58, lz59, lz60, lz61, lz63, lz64, lz97, lz99, lz100, lz110, lz111, lz126, lz129, lz132, lz133, lz166, lz169, lz255, lz999, lz1183, lz1800, Nat.reduceAdd, Nat.reduceLT, Nat.reduceEqDiff, Nat.not_lt_zero, Nat.lt_irrefl, ↓reduceIte, Nat.zero_add, Nat.add_zero, ne_eq, not_true_eq_false, not_false_eq_true, reduceCtorEq]
  obtain ⟨g, q1, q2, q3⟩ := lpEx (β := Nat → Nat → Int32) (n := kN b) (x0 := g0) (F := fun i x => RF 228 62 [.ref 241, .int (nI (nwA (kA b) (kQ b) (kN b))), .int (nI i)] [] (wI h x)) (P := fun i x => RM (x 242) (prA (kA b) (kQ b) i) (prD (kA b) (kD b) (kQ b) (kY b) i) ∧ ∀ c z, ¬(c = 242 ∧ (z = 1 ∨ (13 ≤ z ∧ z < 133))) → x c z = g0 c z) ⟨R.1.congr (fun k hk => hg0n 242 k (by omega) (by omega)), fun _ _ _ => rfl⟩ (fun i x hi hP => by
    obtain ⟨p1, p2⟩ := hP
    have p3 : ∀ z, 133 ≤ z ∨ z = 2 → x 242 z = HI h 242 z := fun z hz => (p2 242 z (by omega)).trans (hg0n 242 z (by omega) (by omega))
    have Rq : RQ (x 242) (kN b) (kQ b) := R.q.cong (fun k _ hk => p3 k hk)
    obtain ⟨_, _, _, c1, c2, c3, c4⟩ := Rq.2.2 i hi
    have v1 := or_s (S.wI x) Rq hi
    have v2 := or_k (S.wI x) Rq hi
    have v3 := or_a (S.wI x) Rq hi
    have x2 : x 242 2 = nI (kN b) := Rq.2.1
    have x0 : x 242 0 = nI (kY b) := ((p2 242 0 (by omega)).trans (hg0n 242 0 (by omega) (by omega))).trans R.2.2.2.2
    have hpv := pv_prA (kA b) (kQ b) i
    have hpA : prA (kA b) (kQ b) (i + 1) = sA (prA (kA b) (kQ b) i) (kQ b i).1 (kQ b i).2.1 (kQ b i).2.2 := rfl
    have hpD : prD (kA b) (kD b) (kQ b) (kY b) (i + 1) = if pv (kA b) (kQ b) i = (kQ b i).2.2 then prD (kA b) (kD b) (kQ b) (kY b) i else sA (prD (kA b) (kD b) (kQ b) (kY b) i) (kQ b i).1 (kQ b i).2.1 (kY b) := rfl
    rw [hpA, hpD, hpv]
    by_cases q1 : pv (kA b) (kQ b) i = 0
    · have hoc3 : oc (kA b) (kQ b) i = 110 := if_pos q1
      have hnn : nwA (kA b) (kQ b) (i + 1) = nwA (kA b) (kQ b) i + b2n (decide (oc (kA b) (kQ b) i = 110)) := rfl
      rw [hoc3, show b2n (decide (110 = 110)) = 1 from rfl] at hnn
      have hmono : nwA (kA b) (kQ b) (i + 1) ≤ nwA (kA b) (kQ b) (kN b) := sumN_mono hi
      have htot := tot_prA (A := kA b) hqb i (by omega)
      obtain ⟨f', f1, f2, f3⟩ := carries_new (S.wI x) p1 (s := (kQ b i).1) (k := (kQ b i).2.1) (a := (kQ b i).2.2) (y := kY b) c1 c2 c3 c4 x0 (by omega) (by omega) (by omega)
      rw [wI_wI] at f1
      rw [HI_wI] at f3
      refine ⟨f', ?_, ?_, fun c z hc => (f3 c z hc).trans (p2 c z hc)⟩
      · rw [e228_62]
        simp (disch := omega) only [S.f, S.cw (show 2 < 169 by decide), x2, hi, v1, v2, v3, f1, cond_true, cond_false, bI_ok, bI_er, bV_ok, bV_er, bR_ok, bR_er, bD_ok, bD_er, bF_ok, bF_er, thr_ap, cl_nI, lt_nI, le_nI, eq_nI, m1_lt, nI_m1, m1_nI, nI_lt_m1, add_nI, sub_nI, addm_nI, z_addm, z_subm, mul_nI, fit1_0, fit1_1, fit2_n, HI_wI, HK_wI, HL_wI, HR_wI, ckK_wI, chI_wI, sI_wI, wI_wI, lz0, lz1, lz2, lz3, lz4, lz5, lz6, lz7, lz8, lz9, lz10, lz12, lz13, lz16, lz17, lz20, lz21, lz23, lz26, lz30, lz32, lz35, lz40, lz45, lz48, lz57, lz58, lz59, lz60, lz61, lz63, lz64, lz97, lz99, lz100, lz110, lz111, lz126, lz129, lz132, lz133, lz166, lz169, lz255, lz999, lz1183, lz1800, Nat.reduceAdd, Nat.reduceLT, Nat.reduceEqDiff, Nat.not_lt_zero, Nat.lt_irrefl, ↓reduceIte, Nat.zero_add, Nat.add_zero, ne_eq, not_true_eq_false, not_false_eq_true, reduceCtorEq]
      · rw [if_neg (by omega)]
        exact f2
    · obtain ⟨f', f1, f2, f3⟩ := carries_old (S.wI x) p1 (s := (kQ b i).1) (k := (kQ b i).2.1) (a := (kQ b i).2.2) (y := kY b) c1 c2 c3 c4 x0 (by omega) (by omega)
      rw [wI_wI] at f1
      rw [HI_wI] at f3
      refine ⟨f', ?_, f2, fun c z hc => (f3 c z (by omega)).trans (p2 c z hc)⟩
      rw [e228_62]
      simp (disch := omega) only [S.f, S.cw (show 2 < 169 by decide), x2, hi, v1, v2, v3, f1, cond_true, cond_false, bI_ok, bI_er, bV_ok, bV_er, bR_ok, bR_er, bD_ok, bD_er, bF_ok, bF_er, thr_ap, cl_nI, lt_nI, le_nI, eq_nI, m1_lt, nI_m1, m1_nI, nI_lt_m1, add_nI, sub_nI, addm_nI, z_addm, z_subm, mul_nI, fit1_0, fit1_1, fit2_n, HI_wI, HK_wI, HL_wI, HR_wI, ckK_wI, chI_wI, sI_wI, wI_wI, lz0, lz1, lz2, lz3, lz4, lz5, lz6, lz7, lz8, lz9, lz10, lz12, lz13, lz16, lz17, lz20, lz21, lz23, lz26, lz30, lz32, lz35, lz40, lz45, lz48, lz57, lz58, lz59, lz60, lz61, lz63, lz64, lz97, lz99, lz100, lz110, lz111, lz126, lz129, lz132, lz133, lz166, lz169, lz255, lz999, lz1183, lz1800, Nat.reduceAdd, Nat.reduceLT, Nat.reduceEqDiff, Nat.not_lt_zero, Nat.lt_irrefl, ↓reduceIte, Nat.zero_add, Nat.add_zero, ne_eq, not_true_eq_false, not_false_eq_true, reduceCtorEq])
  have x2 : g 242 2 = nI (kN b) := ((q3 242 2 (by omega)).trans (hg0n 242 2 (by omega) (by omega))).trans R.q.2.1
  have x7 : g 242 7 = nI (kU b 4) := ((q3 242 7 (by omega)).trans (hg0n 242 7 (by omega) (by omega))).trans t4
  have x0 : g 242 0 = nI (kY b) := ((q3 242 0 (by omega)).trans (hg0n 242 0 (by omega) (by omega))).trans R.2.2.2.2
  refine ⟨u2 (u2 (u2 g 242 2 (nI 0)) 242 7 (nI (kU b 4 + 1))) 242 0 (nI (kY b + 1)), ?_, ⟨q2.congr (fun k hk => ?_), ⟨Nat.zero_le 12, ?_, fun i hi => absurd hi (Nat.not_lt_zero i)⟩, fun s hs => ?_, fun j hj => ?_, w2_eq _ _ _ _⟩, ?_, fun a x z1 z2 => ?_⟩
  · refine hst.trans (q1.trans ?_)
    rw [e228_62]
    simp (disch := omega) only [S.f, S.cw (show 2 < 169 by decide), S.cw (show 7 < 169 by decide), S.cw (show 0 < 169 by decide), x2, x7, x0, w2_ne, cond_true, cond_false, bI_ok, bI_er, bV_ok, bV_er, bR_ok, bR_er, bD_ok, bD_er, bF_ok, bF_er, thr_ap, cl_nI, lt_nI, le_nI, eq_nI, m1_lt, nI_m1, m1_nI, nI_lt_m1, add_nI, sub_nI, addm_nI, z_addm, z_subm, mul_nI, fit1_0, fit1_1, fit2_n, HI_wI, HK_wI, HL_wI, HR_wI, ckK_wI, chI_wI, sI_wI, wI_wI, lz0, lz1, lz2, lz3, lz4, lz5, lz6, lz7, lz8, lz9, lz10, lz12, lz13, lz16, lz17, lz20, lz21, lz23, lz26, lz30, lz32, lz35, lz40, lz45, lz48, lz57, lz58, lz59, lz60, lz61, lz63, lz64, lz97, lz99, lz100, lz110, lz111, lz126, lz129, lz132, lz133, lz166, lz169, lz255, lz999, lz1183, lz1800, Nat.reduceAdd, Nat.reduceLT, Nat.reduceEqDiff, Nat.not_lt_zero, Nat.lt_irrefl, ↓reduceIte, Nat.zero_add, Nat.add_zero, ne_eq, not_true_eq_false, not_false_eq_true, reduceCtorEq]
  · rw [w2_ne (by omega), w2_ne (by omega), w2_ne (by omega)]
  · rw [w2_ne (by omega), w2_ne (by omega), w2_eq]
    rfl
  · rw [w2_ne (by omega), w2_ne (by omega), w2_ne (by omega), q3 _ _ (by omega), hg0n _ _ (by omega) (by omega)]
    exact R.2.2.1 s hs
  · rw [w2_ne (by omega)]
    show _ = nI (if j = 0 then kU b 0 + dpN (kA b) (kQ b) (kN b) else if j = 1 then kU b 1 + coN (kA b) (kQ b) (kN b) else if j = 2 then kU b 2 + nwA (kA b) (kQ b) (kN b) else if j = 4 then kU b 4 + 1 else kU b j)
    by_cases z0 : j = 0
    · subst z0
      rw [w2_ne (by omega), w2_ne (by omega), q3 _ _ (by omega), if_pos rfl, ← hg0, w2_ne (by omega), w2_ne (by omega), w2_eq]
    · by_cases z1 : j = 1
      · subst z1
        rw [w2_ne (by omega), w2_ne (by omega), q3 _ _ (by omega), if_neg (by omega), if_pos rfl, ← hg0, w2_ne (by omega), w2_eq]
      · by_cases z2 : j = 2
        · subst z2
          rw [w2_ne (by omega), w2_ne (by omega), q3 _ _ (by omega), if_neg (by omega), if_neg (by omega), if_pos rfl, ← hg0, w2_eq]
        · by_cases z4 : j = 4
          · subst z4
            rw [w2_eq, if_neg (by omega), if_neg (by omega), if_neg (by omega), if_pos rfl]
          · rw [w2_ne (by omega), w2_ne (by omega), q3 _ _ (by omega), if_neg z0, if_neg z1, if_neg z2, if_neg z4, hg0n _ _ (by omega) (by omega)]
            exact R.2.2.2.1 j hj
  · rw [w2_ne (by omega), w2_ne (by omega), w2_ne (by omega), q3 _ _ (by omega), ← hg0, w2_ne (by omega), w2_ne (by omega), w2_ne (by omega), w2_eq]
  · rw [w2_ne (by omega), w2_ne (by omega), w2_ne (by omega), q3 _ _ (by omega), hg0n _ _ z2 (by omega)]
end MC
