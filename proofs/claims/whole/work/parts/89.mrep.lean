/-! THE REFERENCE: reporting and withdrawing -/
section MC
variable {h : Hp} {b : Bk}
theorem reports_t (S : MdS h) (R : RN (HI h 242) b) (hn : kN b < 12) {s k a : Nat} (hs : s < 3) (hk : k < 1000) (ha : 1 ≤ a) (ha2 : a ≤ 99) : ∃ f', CL 211 [.ref 241, .int (nI (97 + s)), .int (nI k), .int (nI a)] h = some (.ok (.int (nI (kN b + 1))), wI h f') ∧ RN (f' 242) (adB b s k a) ∧ f' 241 16 = nI 0 ∧ FM (HI h) f' := by
  have hr := isReport_ok (h := h) (nI (97 + s)) (nI k) (nI a)
  rw [inr_nI (by omega) (by omega) (by decide), inr_nI (by omega) (by omega) (by decide), inr_nI ha ha2 (by decide), show (true && true && true) = true from rfl, b2t] at hr
  have hg := holds_ok S true true true
  rw [b2t, show thN true true true = 0 from rfl, show b2n (decide (0 = 0)) = 1 from rfl] at hg
  have hz : HI h 242 2 = nI (kN b) := R.q.2.1
  refine ⟨u2 (u2 (u2 (u2 (u2 (HI h) 241 16 (nI 0)) 242 (133 + 3 * kN b) (nI (97 + s))) 242 (133 + 3 * kN b + 1) (nI k)) 242 (133 + 3 * kN b + 2) (nI a)) 242 2 (nI (kN b + 1)), ?_, ⟨R.1.congr (fun k hk => ?_), ⟨hn, w2_eq _ _ _ _, fun i hi => ?_⟩, fun s hs => ?_, fun j hj => ?_, ?_⟩, ?_, fun a x q1 q2 => ?_⟩
  · rw [e211]
    simp (disch := omega) only [S.f, S.cw (show 2 < 169 by decide), S.cw (show 133 + 3 * kN b < 169 by omega), S.cw (show 133 + 3 * kN b + 1 < 169 by omega), S.cw (show 133 + 3 * kN b + 2 < 169 by omega), hr, hg, hz, hn, w2_ne, w2_eq, Nat.succ_ne_self, cond_true, cond_false, bI_ok, bI_er, bV_ok, bV_er, bR_ok, bR_er, bD_ok, bD_er, bF_ok, bF_er, thr_ap, cl_nI, lt_nI, le_nI, eq_nI, m1_lt, nI_m1, m1_nI, nI_lt_m1, add_nI, sub_nI, addm_nI, z_addm, z_subm, mul_nI, fit1_0, fit1_1, fit2_n, HI_wI, HK_wI, HL_wI, HR_wI, ckK_wI, chI_wI, sI_wI, wI_wI, lz0, lz1, lz2, lz3, lz4, lz5, lz6, lz7, lz8, lz9, lz10, lz12, lz13, lz16, lz17, lz20, lz21, lz23, lz26, lz30, lz32, lz35, lz40, lz45, lz48, lz57, lz58, lz59, lz60, lz61, lz63, lz64, lz97, lz99, lz100, lz110, lz111, lz126, lz129, lz132, lz133, lz166, lz169, lz255, lz999, lz1183, lz1800, Nat.reduceAdd, Nat.reduceLT, Nat.reduceEqDiff, Nat.not_lt_zero, Nat.lt_irrefl, ↓reduceIte, Nat.zero_add, Nat.add_zero, ne_eq, not_true_eq_false, not_false_eq_true, reduceCtorEq]
  · rw [w2_ne (by omega), w2_ne (by omega), w2_ne (by omega), w2_ne (by omega), w2_ne (by omega)]
  · show _ = nI (97 + (adQ (kQ b) (kN b) s k a i).1) ∧ _ = nI (adQ (kQ b) (kN b) s k a i).2.1 ∧ _ = nI (adQ (kQ b) (kN b) s k a i).2.2 ∧ (adQ (kQ b) (kN b) s k a i).1 < 3 ∧ (adQ (kQ b) (kN b) s k a i).2.1 < 1000 ∧ 0 < (adQ (kQ b) (kN b) s k a i).2.2 ∧ (adQ (kQ b) (kN b) s k a i).2.2 < 100
    have hi : i < kN b + 1 := hi
    unfold adQ
    by_cases q : i = kN b
    · subst q
      rw [if_pos rfl, w2_ne (by omega), w2_ne (by omega), w2_ne (by omega), w2_eq, w2_ne (by omega), w2_ne (by omega), w2_eq, w2_ne (by omega), w2_eq]
      exact ⟨rfl, rfl, rfl, hs, hk, ha, Nat.lt_succ_of_le ha2⟩
    · rw [if_neg q, w2_ne (by omega), w2_ne (by omega), w2_ne (by omega), w2_ne (by omega), w2_ne (by omega), w2_ne (by omega), w2_ne (by omega), w2_ne (by omega), w2_ne (by omega), w2_ne (by omega), w2_ne (by omega), w2_ne (by omega), w2_ne (by omega), w2_ne (by omega), w2_ne (by omega)]
      exact R.q.2.2 i (by omega)
  · rw [w2_ne (by omega), w2_ne (by omega), w2_ne (by omega), w2_ne (by omega), w2_ne (by omega)]
    exact R.2.2.1 s hs
  · rw [w2_ne (by omega), w2_ne (by omega), w2_ne (by omega), w2_ne (by omega), w2_ne (by omega)]
    exact R.2.2.2.1 j hj
  · rw [w2_ne (by omega), w2_ne (by omega), w2_ne (by omega), w2_ne (by omega), w2_ne (by omega)]
    exact R.2.2.2.2
  · rw [w2_ne (by omega), w2_ne (by omega), w2_ne (by omega), w2_ne (by omega), w2_eq]
  · rw [w2_ne (by omega), w2_ne (by omega), w2_ne (by omega), w2_ne (by omega), w2_ne q2]
theorem reports_f (S : MdS h) (R : RN (HI h 242) b) (x y z : Int32) (hbad : (inr 97 99 x && inr 0 999 y && inr 1 99 z) = false ∨ ¬(kN b < 12)) : CL 211 [.ref 241, .int x, .int y, .int z] h = some (.ok (.int (nI 0)), wI h (u2 (HI h) 241 16 (nI (if (inr 97 99 x && inr 0 999 y && inr 1 99 z) then 2 else 1)))) := by
  have hr := isReport_ok (h := h) x y z
  have hz : HI h 242 2 = nI (kN b) := R.q.2.1
  have n12 := R.q.1
  generalize (inr 97 99 x && inr 0 999 y && inr 1 99 z) = p at *
  rw [e211]
  by_cases q : kN b < 12
  · have hp : p = false := by
      rcases hbad with hb | hb
      · exact hb
      · exact absurd q hb
    subst hp
    have hg := holds_ok S false true true
    rw [b2t, b2f, show thN false true true = 1 from rfl, show b2n (decide (1 = 0)) = 0 from rfl] at hg
    rw [b2f] at hr
    simp (disch := omega) only [S.f, S.cw (show 2 < 169 by decide), hr, hg, hz, q, Bool.false_eq_true, cond_true, cond_false, bI_ok, bI_er, bV_ok, bV_er, bR_ok, bR_er, bD_ok, bD_er, bF_ok, bF_er, thr_ap, cl_nI, lt_nI, le_nI, eq_nI, m1_lt, nI_m1, m1_nI, nI_lt_m1, add_nI, sub_nI, addm_nI, z_addm, z_subm, mul_nI, fit1_0, fit1_1, fit2_n, HI_wI, HK_wI, HL_wI, HR_wI, ckK_wI, chI_wI, sI_wI, wI_wI, lz0, lz1, lz2, lz3, lz4, lz5, lz6, lz7, lz8, lz9, lz10, lz12, lz13, lz16, lz17, lz20, lz21, lz23, lz26, lz30, lz32, lz35, lz40, lz45, lz48, lz57, lz58, lz59, lz60, lz61, lz63, lz64, lz97, lz99, lz100, lz110, lz111, lz126, lz129, lz132, lz133, lz166, lz169, lz255, lz999, lz1183, lz1800, Nat.reduceAdd, Nat.reduceLT, Nat.reduceEqDiff, Nat.not_lt_zero, Nat.lt_irrefl, ↓reduceIte, Nat.zero_add, Nat.add_zero, ne_eq, not_true_eq_false, not_false_eq_true, reduceCtorEq]
  · cases p with
    | false =>
      have hg := holds_ok S false false true
      rw [b2t, b2f, show thN false false true = 1 from rfl, show b2n (decide (1 = 0)) = 0 from rfl] at hg
      rw [b2f] at hr
      simp (disch := omega) only [S.f, S.cw (show 2 < 169 by decide), hr, hg, hz, q, Bool.false_eq_true, cond_true, cond_false, bI_ok, bI_er, bV_ok, bV_er, bR_ok, bR_er, bD_ok, bD_er, bF_ok, bF_er, thr_ap, cl_nI, lt_nI, le_nI, eq_nI, m1_lt, nI_m1, m1_nI, nI_lt_m1, add_nI, sub_nI, addm_nI, z_addm, z_subm, mul_nI, fit1_0, fit1_1, fit2_n, HI_wI, HK_wI, HL_wI, HR_wI, ckK_wI, chI_wI, sI_wI, wI_wI, lz0, lz1, lz2, lz3, lz4, lz5, lz6, lz7, lz8, lz9, lz10, lz12, lz13, lz16, lz17, lz20, lz21, lz23, lz26, lz30, lz32, lz35, lz40, lz45, lz48, lz57, lz58, lz59, lz60, lz61, lz63, lz64, lz97, lz99, lz100, lz110, lz111, lz126, lz129, lz132, lz133, lz166, lz169, lz255, lz999, lz1183, lz1800, Nat.reduceAdd, Nat.reduceLT, Nat.reduceEqDiff, Nat.not_lt_zero, Nat.lt_irrefl, ↓reduceIte, Nat.zero_add, Nat.add_zero, ne_eq, not_true_eq_false, not_false_eq_true, reduceCtorEq]
    | true =>
      have hg := holds_ok S true false true
      rw [b2t, b2f, show thN true false true = 2 from rfl, show b2n (decide (2 = 0)) = 0 from rfl] at hg
      rw [b2t] at hr
      simp (disch := omega) only [S.f, S.cw (show 2 < 169 by decide), hr, hg, hz, q, cond_true, cond_false, bI_ok, bI_er, bV_ok, bV_er, bR_ok, bR_er, bD_ok, bD_er, bF_ok, bF_er, thr_ap, cl_nI, lt_nI, le_nI, eq_nI, m1_lt, nI_m1, m1_nI, nI_lt_m1, add_nI, sub_nI, addm_nI, z_addm, z_subm, mul_nI, fit1_0, fit1_1, fit2_n, HI_wI, HK_wI, HL_wI, HR_wI, ckK_wI, chI_wI, sI_wI, wI_wI, lz0, lz1, lz2, lz3, lz4, lz5, lz6, lz7, lz8, lz9, lz10, lz12, lz13, lz16, lz17, lz20, lz21, lz23, lz26, lz30, lz32, lz35, lz40, lz45, lz48, lz57, lz58, lz59, lz60, lz61, lz63, lz64, lz97, lz99, lz100, lz110, lz111, lz126, lz129, lz132, lz133, lz166, lz169, lz255, lz999, lz1183, lz1800, Nat.reduceAdd, Nat.reduceLT, Nat.reduceEqDiff, Nat.not_lt_zero, Nat.lt_irrefl, ↓reduceIte, Nat.zero_add, Nat.add_zero, ne_eq, not_true_eq_false, not_false_eq_true, reduceCtorEq]
end MC
