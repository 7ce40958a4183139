/-! THE CLASS: isConsistent -/
section CS
variable {h : Hp}
theorem cons_step (S : RrS h) (M : MgS h) {A D : AF} {f : Nat → Nat → Int32} (R : RT f 33 A D) {s o : Nat} (ho : o < 3) (hso : s < o) : ∃ f', RF 123 11 [.ref 31, .int (nI s), .int (nI o)] [] (wI h f) = RF 123 11 [.ref 31, .int (nI s), .int (nI (o + 1))] [] (wI h f') ∧ Fm f f' := by
  obtain ⟨z, f1, k1, k2, k3, k4⟩ := sizeOne_ok S M R (show s < 3 by omega) ho (show s ≠ o by omega)
  have R1 := k4.t R
  obtain ⟨z', f2, y1, y2, y3, y4⟩ := sizeRounds_ok S M R1 (show s < 3 by omega) ho (show s ≠ o by omega)
  have e := MC_eq k2 y2
  refine ⟨f2, ?_, k4.trans y4⟩
  rw [e] at k1
  rw [e123_11]
  simp (disch := omega) only [S.f, ho, k1, y1, cond_true, cond_false, bI_ok, bI_er, bV_ok, bV_er, bR_ok, bR_er, bD_ok, bD_er, bF_ok, bF_er, thr_ap, cl_nI, lt_nI, le_nI, eq_nI, m1_lt, nI_m1, m1_nI, nI_lt_m1, add_nI, sub_nI, addm_nI, z_addm, z_subm, mul_nI, fit1_0, fit1_1, fit2_n, HI_wI, HK_wI, HL_wI, HR_wI, ckK_wI, chI_wI, sI_wI, wI_wI, lz0, lz1, lz2, lz3, lz4, lz5, lz6, lz7, lz8, lz9, lz10, lz12, lz13, lz16, lz17, lz20, lz21, lz23, lz26, lz30, lz32, lz35, lz40, lz45, lz48, lz57, lz58, lz59, lz60, lz61, lz63, lz64, lz97, lz99, lz100, lz110, lz111, lz126, lz129, lz132, lz133, lz166, lz169, lz255, lz999, lz1183, lz1800, Nat.reduceAdd, Nat.reduceLT, Nat.reduceEqDiff, Nat.not_lt_zero, Nat.lt_irrefl, ↓reduceIte, Nat.zero_add, Nat.add_zero, ne_eq, not_true_eq_false, not_false_eq_true, reduceCtorEq]
theorem consistent_ok (S : RrS h) (M : MgS h) (G : GrS h) {b : Bk} (R : RK (HI h) 32 b) {y : Nat} (hB : Bd b y) (hy : y < 1000000000) (hcn : tot (kA b) + kU b 3 = kU b 2) : ∃ f', CL 123 [.ref 31] h = some (.ok (.int (nI 1)), wI h f') ∧ ∀ a x, ¬(227 ≤ a ∧ a < 239) → f' a x = HI h a x := by
  have Rt : RT (HI h) 33 (kA b) (kD b) := R.t
  have n30 := Rt.n30
  have t1 := (tb33 S).2
  have T := (tb33 S).1
  obtain ⟨f1, a1, a2⟩ := cons_step S M Rt (s := 0) (o := 1) (by decide) (by decide)
  obtain ⟨f2, b1, b2⟩ := cons_step S M (a2.t Rt) (s := 0) (o := 2) (by decide) (by decide)
  obtain ⟨f3, c1, c2⟩ := cons_step S M (b2.t (a2.t Rt)) (s := 1) (o := 2) (by decide) (by decide)
  have F3 : Fm (HI h) f3 := (a2.trans b2).trans c2
  have R3 := F3.t Rt
  have e3 := F3.tk
  have e0 : CL 123 [.ref 31] h = RF 123 2 [.ref 31, .int (nI 3), .int (nI 3)] [] (wI h f3) := by
    have g1 : RF 123 2 [.ref 31, .int (nI 0), .null] [] (wI h (HI h)) = RF 123 11 [.ref 31, .int (nI 0), .int (nI 1)] [] (wI h (HI h)) := by
      rw [e123_2]
      simp (disch := omega) only [cond_true, cond_false, bI_ok, bI_er, bV_ok, bV_er, bR_ok, bR_er, bD_ok, bD_er, bF_ok, bF_er, thr_ap, cl_nI, lt_nI, le_nI, eq_nI, m1_lt, nI_m1, m1_nI, nI_lt_m1, add_nI, sub_nI, addm_nI, z_addm, z_subm, mul_nI, fit1_0, fit1_1, fit2_n, HI_wI, HK_wI, HL_wI, HR_wI, ckK_wI, chI_wI, sI_wI, wI_wI, lz0, lz1, lz2, lz3, lz4, lz5, lz6, lz7, lz8, lz9, lz10, lz12, lz13, lz16, lz17, lz20, lz21, lz23, lz26, lz30, lz32, lz35, lz40, lz45, lz48, lz57, lz58, lz59, lz60, lz61, lz63, lz64, lz97, lz99, lz100, lz110, lz111, lz126, lz129, lz132, lz133, lz166, lz169, lz255, lz999, lz1183, lz1800, Nat.reduceAdd, Nat.reduceLT, Nat.reduceEqDiff, Nat.not_lt_zero, Nat.lt_irrefl, ↓reduceIte, Nat.zero_add, Nat.add_zero, ne_eq, not_true_eq_false, not_false_eq_true, reduceCtorEq]
    have g2 : RF 123 11 [.ref 31, .int (nI 0), .int (nI 3)] [] (wI h f2) = RF 123 11 [.ref 31, .int (nI 1), .int (nI 2)] [] (wI h f2) := by
      rw [e123_11]
      simp (disch := omega) only [cond_true, cond_false, bI_ok, bI_er, bV_ok, bV_er, bR_ok, bR_er, bD_ok, bD_er, bF_ok, bF_er, thr_ap, cl_nI, lt_nI, le_nI, eq_nI, m1_lt, nI_m1, m1_nI, nI_lt_m1, add_nI, sub_nI, addm_nI, z_addm, z_subm, mul_nI, fit1_0, fit1_1, fit2_n, HI_wI, HK_wI, HL_wI, HR_wI, ckK_wI, chI_wI, sI_wI, wI_wI, lz0, lz1, lz2, lz3, lz4, lz5, lz6, lz7, lz8, lz9, lz10, lz12, lz13, lz16, lz17, lz20, lz21, lz23, lz26, lz30, lz32, lz35, lz40, lz45, lz48, lz57, lz58, lz59, lz60, lz61, lz63, lz64, lz97, lz99, lz100, lz110, lz111, lz126, lz129, lz132, lz133, lz166, lz169, lz255, lz999, lz1183, lz1800, Nat.reduceAdd, Nat.reduceLT, Nat.reduceEqDiff, Nat.not_lt_zero, Nat.lt_irrefl, ↓reduceIte, Nat.zero_add, Nat.add_zero, ne_eq, not_true_eq_false, not_false_eq_true, reduceCtorEq]
      rw [e123_2]
      simp (disch := omega) only [cond_true, cond_false, bI_ok, bI_er, bV_ok, bV_er, bR_ok, bR_er, bD_ok, bD_er, bF_ok, bF_er, thr_ap, cl_nI, lt_nI, le_nI, eq_nI, m1_lt, nI_m1, m1_nI, nI_lt_m1, add_nI, sub_nI, addm_nI, z_addm, z_subm, mul_nI, fit1_0, fit1_1, fit2_n, HI_wI, HK_wI, HL_wI, HR_wI, ckK_wI, chI_wI, sI_wI, wI_wI, lz0, lz1, lz2, lz3, lz4, lz5, lz6, lz7, lz8, lz9, lz10, lz12, lz13, lz16, lz17, lz20, lz21, lz23, lz26, lz30, lz32, lz35, lz40, lz45, lz48, lz57, lz58, lz59, lz60, lz61, lz63, lz64, lz97, lz99, lz100, lz110, lz111, lz126, lz129, lz132, lz133, lz166, lz169, lz255, lz999, lz1183, lz1800, Nat.reduceAdd, Nat.reduceLT, Nat.reduceEqDiff, Nat.not_lt_zero, Nat.lt_irrefl, ↓reduceIte, Nat.zero_add, Nat.add_zero, ne_eq, not_true_eq_false, not_false_eq_true, reduceCtorEq]
    have g3 : RF 123 11 [.ref 31, .int (nI 1), .int (nI 3)] [] (wI h f3) = RF 123 2 [.ref 31, .int (nI 3), .int (nI 3)] [] (wI h f3) := by
      rw [e123_11]
      simp (disch := omega) only [cond_true, cond_false, bI_ok, bI_er, bV_ok, bV_er, bR_ok, bR_er, bD_ok, bD_er, bF_ok, bF_er, thr_ap, cl_nI, lt_nI, le_nI, eq_nI, m1_lt, nI_m1, m1_nI, nI_lt_m1, add_nI, sub_nI, addm_nI, z_addm, z_subm, mul_nI, fit1_0, fit1_1, fit2_n, HI_wI, HK_wI, HL_wI, HR_wI, ckK_wI, chI_wI, sI_wI, wI_wI, lz0, lz1, lz2, lz3, lz4, lz5, lz6, lz7, lz8, lz9, lz10, lz12, lz13, lz16, lz17, lz20, lz21, lz23, lz26, lz30, lz32, lz35, lz40, lz45, lz48, lz57, lz58, lz59, lz60, lz61, lz63, lz64, lz97, lz99, lz100, lz110, lz111, lz126, lz129, lz132, lz133, lz166, lz169, lz255, lz999, lz1183, lz1800, Nat.reduceAdd, Nat.reduceLT, Nat.reduceEqDiff, Nat.not_lt_zero, Nat.lt_irrefl, ↓reduceIte, Nat.zero_add, Nat.add_zero, ne_eq, not_true_eq_false, not_false_eq_true, reduceCtorEq]
      rw [e123_2]
      simp (disch := omega) only [cond_true, cond_false, bI_ok, bI_er, bV_ok, bV_er, bR_ok, bR_er, bD_ok, bD_er, bF_ok, bF_er, thr_ap, cl_nI, lt_nI, le_nI, eq_nI, m1_lt, nI_m1, m1_nI, nI_lt_m1, add_nI, sub_nI, addm_nI, z_addm, z_subm, mul_nI, fit1_0, fit1_1, fit2_n, HI_wI, HK_wI, HL_wI, HR_wI, ckK_wI, chI_wI, sI_wI, wI_wI, lz0, lz1, lz2, lz3, lz4, lz5, lz6, lz7, lz8, lz9, lz10, lz12, lz13, lz16, lz17, lz20, lz21, lz23, lz26, lz30, lz32, lz35, lz40, lz45, lz48, lz57, lz58, lz59, lz60, lz61, lz63, lz64, lz97, lz99, lz100, lz110, lz111, lz126, lz129, lz132, lz133, lz166, lz169, lz255, lz999, lz1183, lz1800, Nat.reduceAdd, Nat.reduceLT, Nat.reduceEqDiff, Nat.not_lt_zero, Nat.lt_irrefl, ↓reduceIte, Nat.zero_add, Nat.add_zero, ne_eq, not_true_eq_false, not_false_eq_true, reduceCtorEq]
      rw [e123_11]
      simp (disch := omega) only [cond_true, cond_false, bI_ok, bI_er, bV_ok, bV_er, bR_ok, bR_er, bD_ok, bD_er, bF_ok, bF_er, thr_ap, cl_nI, lt_nI, le_nI, eq_nI, m1_lt, nI_m1, m1_nI, nI_lt_m1, add_nI, sub_nI, addm_nI, z_addm, z_subm, mul_nI, fit1_0, fit1_1, fit2_n, HI_wI, HK_wI, HL_wI, HR_wI, ckK_wI, chI_wI, sI_wI, wI_wI, lz0, lz1, lz2, lz3, lz4, lz5, lz6, lz7, lz8, lz9, lz10, lz12, lz13, lz16, lz17, lz20, lz21, lz23, lz26, lz30, lz32, lz35, lz40, lz45, lz48, lz57, lz58, lz59, lz60, lz61, lz63, lz64, lz97, lz99, lz100, lz110, lz111, lz126, lz129, lz132, lz133, lz166, lz169, lz255, lz999, lz1183, lz1800, Nat.reduceAdd, Nat.reduceLT, Nat.reduceEqDiff, Nat.not_lt_zero, Nat.lt_irrefl, ↓reduceIte, Nat.zero_add, Nat.add_zero, ne_eq, not_true_eq_false, not_false_eq_true, reduceCtorEq]
    rw [wI_HI] at g1 a1
    rw [e123]
    exact g1.trans (a1.trans (b1.trans (g2.trans (c1.trans g3))))
  obtain ⟨f4, l1, l2, l3⟩ := gl33 S G R3
  obtain ⟨q1, q2, q3, q4, q5⟩ := grE_lk R3
  obtain ⟨z, f5, u1', u2', u3', u4'⟩ := uniting_ok G (grE_sy (kA b) f3 33) grE_h (by have := e3.1; omega) l2
  have l2' : GL f5 (tn f3 33) (grE (kA b) f3 33) := ⟨(u4' 235 3 (by decide)).trans l2.1, fun i j hi hj => by rw [u4' 236 i (by decide)]; exact l2.2 i j hi hj⟩
  obtain ⟨z', f6, v1, v2, v3, v4⟩ := searching_ok G (grE_sy (kA b) f3 33) grE_h (by have := e3.1; omega) l2'
  have e := NK_eq (NC_key q1 q2 q3 q4 q5 u2') (NC_key q1 q2 q3 q4 q5 v2)
  have hfr : ∀ a x, ¬(227 ≤ a ∧ a < 239) → f6 a x = HI h a x := fun a x q => by
    rw [v4 a x (by omega), u4' a x (by omega), l3 a x (by omega), F3 a x (by omega)]
  refine ⟨f6, ?_, hfr⟩
  have hm : f6 33 4 = nI (tot (kA b)) := by
    rw [hfr 33 4 (by omega)]
    have hm := Rt.N.m
    rw [Rt.m] at hm
    exact hm
  have hu2 : f6 48 2 = nI (kU b 2) := (hfr 48 2 (by omega)).trans (R.tt (show 2 < 7 by decide))
  have hu3 : f6 48 3 = nI (kU b 3) := (hfr 48 3 (by omega)).trans (R.tt (show 3 < 7 by decide))
  have hr3 : HR h 32 3 = 48 := S.bk.f.2.2.2.2
  have c48a : chI h 48 100 (nI 2) = true := S.bk.tt (show 2 < 7 by decide)
  have c48b : chI h 48 100 (nI 3) = true := S.bk.tt (show 3 < 7 by decide)
  have b2' := hB.1 2 (by decide)
  have hsub : kU b 2 - kU b 3 = tot (kA b) := by omega
  rw [e] at u1'
  rw [e0, e123_2]
  simp (disch := omega) only [S.f, S.ks, G.f, T.f, t1, hr3, c48a, c48b, l1, u1', v1, hm, hu2, hu3, hsub, cond_true, cond_false, bI_ok, bI_er, bV_ok, bV_er, bR_ok, bR_er, bD_ok, bD_er, bF_ok, bF_er, thr_ap, cl_nI, lt_nI, le_nI, eq_nI, m1_lt, nI_m1, m1_nI, nI_lt_m1, add_nI, sub_nI, addm_nI, z_addm, z_subm, mul_nI, fit1_0, fit1_1, fit2_n, HI_wI, HK_wI, HL_wI, HR_wI, ckK_wI, chI_wI, sI_wI, wI_wI, lz0, lz1, lz2, lz3, lz4, lz5, lz6, lz7, lz8, lz9, lz10, lz12, lz13, lz16, lz17, lz20, lz21, lz23, lz26, lz30, lz32, lz35, lz40, lz45, lz48, lz57, lz58, lz59, lz60, lz61, lz63, lz64, lz97, lz99, lz100, lz110, lz111, lz126, lz129, lz132, lz133, lz166, lz169, lz255, lz999, lz1183, lz1800, Nat.reduceAdd, Nat.reduceLT, Nat.reduceEqDiff, Nat.not_lt_zero, Nat.lt_irrefl, ↓reduceIte, Nat.zero_add, Nat.add_zero, ne_eq, not_true_eq_false, not_false_eq_true, reduceCtorEq]
end CS
/-- the records counted are those that came less those that went -/
def Cns (b : Bk) : Prop := tot (kA b) + kU b 3 = kU b 2
theorem Cns.eff {b : Bk} (H : Cns b) {j s k : Nat} {a : Int32} (hj : j < 7) (hs : s < 3) (hk : k < 1000) (hf : flB b j s k a = 0) (hq : ∀ i, i < kN b → (kQ b i).1 < 3 ∧ (kQ b i).2.1 < 1000 ∧ 0 < (kQ b i).2.2) : Cns (effB b j s k a.toNatClampNeg) := by
  unfold Cns at *
  have hj' : j = 0 ∨ j = 1 ∨ j = 2 ∨ j = 3 ∨ j = 4 ∨ j = 5 ∨ j = 6 := by omega
  rcases hj' with rfl | rfl | rfl | rfl | rfl | rfl | rfl
  · exact H
  · exact H
  · have ht := tot_prA (A := kA b) hq (kN b) (Nat.le_refl _)
    show tot (prA (kA b) (kQ b) (kN b)) + kU b 3 = kU b 2 + nwA (kA b) (kQ b) (kN b)
    omega
  · exact H
  · have hf : (if kA b s k = 0 then 2 else if stA (kA b) k = 100 then 0 else 3) = 0 := hf
    have h0 : 0 < kA b s k := by
      by_cases q : kA b s k = 0
      · rw [if_pos q] at hf
        cases hf
      · omega
    show tot (lvA (kA b) k (kA b s k)) + kU b 3 = kU b 2
    rw [tot_lvA _ h0]
    exact H
  · have hf : (if kA b s k = 0 then 2 else 0) = 0 := hf
    have h0 : 0 < kA b s k := by
      by_cases q : kA b s k = 0
      · rw [if_pos q] at hf
        cases hf
      · omega
    have ht := tot_sA (kA b) (v := 0) hs hk
    rw [decide_eq_true h0, b2t, decide_eq_false (by decide), b2f] at ht
    show tot (sA (kA b) s k 0) + (kU b 3 + 1) = kU b 2
    omega
  · exact H

