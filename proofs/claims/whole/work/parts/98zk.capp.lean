/-! THE CLASS: append and run -/
section PG
variable {h : Hp} {x : Nat → Nat} {n : Nat}
theorem append_f (c : Int32) (hc : inr 32 126 c = false) : CL 24 [.ref 31, .int c] h = some (.error 1, hthr h) := by
  rw [e24]
  rcases inr_f hc with h1 | ⟨h1, h2⟩
  · have h1' : c < 32 := h1
    simp only [h1', if_true]
  · have h1' : ¬(c < 32) := h1
    have h2' : (126 : Int32) < c := h2
    simp only [h1', h2', if_true, if_false]
theorem append_n (S : RrS h) (P : PgS h) {f : Nat → Nat → Int32} (T : TX f x n) {c : Nat} (h1 : 32 ≤ c) (h2 : c ≤ 126) (hn : ¬(n < 60)) : CL 24 [.ref 31, .int (nI c)] (wI h f) = some (.error 2, hthr (wI h f)) := by
  have t1 := T.1
  have t2 := T.2.1
  rw [e24]
  simp (disch := omega) only [S.f, P.f, t1, show ¬(c < 32) by omega, show ¬(126 < c) by omega, hn, cond_true, cond_false, bI_ok, bI_er, bV_ok, bV_er, bR_ok, bR_er, bD_ok, bD_er, bF_ok, bF_er, thr_ap, cl_nI, lt_nI, le_nI, eq_nI, m1_lt, nI_m1, m1_nI, nI_lt_m1, add_nI, sub_nI, addm_nI, z_addm, z_subm, mul_nI, fit1_0, fit1_1, fit2_n, HI_wI, HK_wI, HL_wI, HR_wI, ckK_wI, chI_wI, sI_wI, wI_wI, lz0, lz1, lz2, lz3, lz4, lz5, lz6, lz7, lz8, lz9, lz10, lz12, lz13, lz16, lz17, lz20, lz21, lz23, lz26, lz30, lz32, lz35, lz40, lz45, lz48, lz57, lz58, lz59, lz60, lz61, lz63, lz64, lz97, lz99, lz100, lz110, lz111, lz126, lz129, lz132, lz133, lz166, lz169, lz255, lz999, lz1183, lz1800, Nat.reduceAdd, Nat.reduceLT, Nat.reduceEqDiff, Nat.not_lt_zero, Nat.lt_irrefl, ↓reduceIte, Nat.zero_add, Nat.add_zero, ne_eq, not_true_eq_false, not_false_eq_true, reduceCtorEq]
theorem append_t (S : RrS h) (P : PgS h) {f : Nat → Nat → Int32} (T : TX f x n) {c : Nat} (h1 : 32 ≤ c) (h2 : c ≤ 126) (hn : n < 60) : ∃ f', CL 24 [.ref 31, .int (nI c)] (wI h f) = some (.ok (.int (nI (n + 1))), wI h f') ∧ TX f' (ud x n c) (n + 1) ∧ ∀ a y, a ≠ 221 → a ≠ 222 → f' a y = f a y := by
  obtain ⟨t1, t2, t3⟩ := T
  refine ⟨u2 (u2 f 222 n (nI c)) 221 1 (nI (n + 1)), ?_, ⟨w2_eq _ _ _ _, by omega, fun i hi => ?_⟩, fun a y q1 q2 => by rw [w2_ne (by omega), w2_ne (by omega)]⟩
  · rw [e24]
    simp (disch := omega) only [S.f, P.f, t1, show ¬(c < 32) by omega, show ¬(126 < c) by omega, hn, cond_true, cond_false, bI_ok, bI_er, bV_ok, bV_er, bR_ok, bR_er, bD_ok, bD_er, bF_ok, bF_er, thr_ap, cl_nI, lt_nI, le_nI, eq_nI, m1_lt, nI_m1, m1_nI, nI_lt_m1, add_nI, sub_nI, addm_nI, z_addm, z_subm, mul_nI, fit1_0, fit1_1, fit2_n, HI_wI, HK_wI, HL_wI, HR_wI, ckK_wI, chI_wI, sI_wI, wI_wI, lz0, lz1, lz2, lz3, lz4, lz5, lz6, lz7, lz8, lz9, lz10, lz12, lz13, lz16, lz17, lz20, lz21, lz23, lz26, lz30, lz32, lz35, lz40, lz45, lz48, lz57, lz58, lz59, lz60, lz61, lz63, lz64, lz97, lz99, lz100, lz110, lz111, lz126, lz129, lz132, lz133, lz166, lz169, lz255, lz999, lz1183, lz1800, Nat.reduceAdd, Nat.reduceLT, Nat.reduceEqDiff, Nat.not_lt_zero, Nat.lt_irrefl, ↓reduceIte, Nat.zero_add, Nat.add_zero, ne_eq, not_true_eq_false, not_false_eq_true, reduceCtorEq]
    rw [e23]
    simp (disch := omega) only [S.f, P.f, P.c (show n < 60 by omega), Bool.and_true, t1, hn, w2_ne, w2_eq, cond_true, cond_false, bI_ok, bI_er, bV_ok, bV_er, bR_ok, bR_er, bD_ok, bD_er, bF_ok, bF_er, thr_ap, cl_nI, lt_nI, le_nI, eq_nI, m1_lt, nI_m1, m1_nI, nI_lt_m1, add_nI, sub_nI, addm_nI, z_addm, z_subm, mul_nI, fit1_0, fit1_1, fit2_n, HI_wI, HK_wI, HL_wI, HR_wI, ckK_wI, chI_wI, sI_wI, wI_wI, lz0, lz1, lz2, lz3, lz4, lz5, lz6, lz7, lz8, lz9, lz10, lz12, lz13, lz16, lz17, lz20, lz21, lz23, lz26, lz30, lz32, lz35, lz40, lz45, lz48, lz57, lz58, lz59, lz60, lz61, lz63, lz64, lz97, lz99, lz100, lz110, lz111, lz126, lz129, lz132, lz133, lz166, lz169, lz255, lz999, lz1183, lz1800, Nat.reduceAdd, Nat.reduceLT, Nat.reduceEqDiff, Nat.not_lt_zero, Nat.lt_irrefl, ↓reduceIte, Nat.zero_add, Nat.add_zero, ne_eq, not_true_eq_false, not_false_eq_true, reduceCtorEq]
  · rw [w2_ne (by omega)]
    by_cases q : i = n
    · rw [q, w2_eq, ud_e]
      exact ⟨rfl, h1, h2⟩
    · rw [w2_ne (by omega), ud_n q]
      exact t3 i (by omega)
def FRc (f f' : Nat → Nat → Int32) : Prop := ∀ a y, ¬(32 ≤ a ∧ a < 66) → ¬(83 ≤ a ∧ a < 227) → ¬(a = 31 ∧ (y = 9 ∨ y = 10)) → f' a y = f a y
theorem run_ok (S : RrS h) (P : PgS h) (K : KoS h) {f : Nat → Nat → Int32} (F : Ko f) (T : TX f x n) (C0 : Nat → Cm) {N : Nat} (hN : N = 60) {b : Bk} (R : RK f 32 b) {y : Nat} (hB : Bd b y) (hy : y + 6000 < 1000000000) {hm8 : Nat} {H : HF} (RHh : RH f hm8 H) : (∀ e, prsA x n N 0 0 C0 = .error e → ∃ f', CL 174 [.ref 31] (wI h f) = some (.error 1, hthr (wI h f')) ∧ RK f' 32 b ∧ RH f' hm8 H ∧ f' 31 9 = nI e ∧ f' 31 10 = f 31 10 ∧ f' 221 1 = nI 0 ∧ FRc f f') ∧ ∀ r, prsA x n N 0 0 C0 = .ok r → (∀ i, fai b r.2 r.1 = some i → ∃ f', CL 174 [.ref 31] (wI h f) = some (.error 2, hthr (wI h f')) ∧ RK f' 32 b ∧ RH f' hm8 H ∧ f' 31 9 = f 31 9 ∧ f' 31 10 = nI i ∧ f' 221 1 = nI 0 ∧ FRc f f') ∧ (fai b r.2 r.1 = none → ∃ f', CL 174 [.ref 31] (wI h f) = some (.ok (.int (nI r.1)), wI h f') ∧ RK f' 32 (bsq b r.2 r.1) ∧ RH f' (if hm8 < 8 then hm8 + 1 else 8) (puH b H) ∧ f' 31 9 = f 31 9 ∧ f' 31 10 = f 31 10 ∧ f' 221 1 = nI 0 ∧ FRc f f') := by
  obtain ⟨p1, p2⟩ := parse_ok P K F T C0 hN
  have n60 := T.2.1
  obtain ⟨b1, b2⟩ := prsA_b (x := x) (n := n) N 0 0 C0 (Nat.zero_le n) (fun j hj => absurd hj (Nat.not_lt_zero j))
  refine ⟨fun e he => ?_, fun r hr => ?_⟩
  · obtain ⟨f1, k1, k2⟩ := p1 e he
    have hen := b1 e he
    have hfr : ∀ a z, ¬(221 ≤ a ∧ a ≤ 226) → ¬(a = 31 ∧ z = 9) → u2 (u2 f1 221 1 (nI 0)) 31 9 (nI e) a z = f a z := fun a z q1 q2 => by
      rw [w2_ne (by omega), w2_ne (by omega), k2 a z (by omega) (by omega)]
    refine ⟨u2 (u2 f1 221 1 (nI 0)) 31 9 (nI e), ?_, ⟨R.t.cong (fun i z hi => hfr _ z (by omega) (by omega)), R.q.cong (fun i z hi => hfr _ z (by omega) (by omega)), fun s hs => ?_, fun i hi => ?_, ?_⟩, RHh.fr (fun a z q1 q2 => hfr a z (by omega) (by omega)), w2_eq _ _ _ _, hfr 31 10 (by omega) (by omega), by rw [w2_ne (by omega), w2_eq], fun a z q1 q2 q3 => hfr a z (by omega) (by omega)⟩
    · rw [e174]
      simp (disch := omega) only [S.f, P.f, k1, neg_nI, cond_true, cond_false, bI_ok, bI_er, bV_ok, bV_er, bR_ok, bR_er, bD_ok, bD_er, bF_ok, bF_er, thr_ap, cl_nI, lt_nI, le_nI, eq_nI, m1_lt, nI_m1, m1_nI, nI_lt_m1, add_nI, sub_nI, addm_nI, z_addm, z_subm, mul_nI, fit1_0, fit1_1, fit2_n, HI_wI, HK_wI, HL_wI, HR_wI, ckK_wI, chI_wI, sI_wI, wI_wI, lz0, lz1, lz2, lz3, lz4, lz5, lz6, lz7, lz8, lz9, lz10, lz12, lz13, lz16, lz17, lz20, lz21, lz23, lz26, lz30, lz32, lz35, lz40, lz45, lz48, lz57, lz58, lz59, lz60, lz61, lz63, lz64, lz97, lz99, lz100, lz110, lz111, lz126, lz129, lz132, lz133, lz166, lz169, lz255, lz999, lz1183, lz1800, Nat.reduceAdd, Nat.reduceLT, Nat.reduceEqDiff, Nat.not_lt_zero, Nat.lt_irrefl, ↓reduceIte, Nat.zero_add, Nat.add_zero, ne_eq, not_true_eq_false, not_false_eq_true, reduceCtorEq]
    · rw [hfr _ s (by omega) (by omega)]
      exact R.tr hs
    · rw [hfr _ i (by omega) (by omega)]
      exact R.tt hi
    · rw [hfr _ 4 (by omega) (by omega)]
      exact R.y
  · obtain ⟨f1, k1, k2, k3, k4⟩ := p2 r hr
    obtain ⟨y1, y2, y3, y4⟩ := b2 r hr
    have hfr : ∀ a z, ¬(221 ≤ a ∧ a ≤ 226) → u2 f1 221 1 (nI 0) a z = f a z := fun a z q1 => by
      rw [w2_ne (by omega), k4 a z (by omega) (by omega)]
    have R1 : RK (u2 f1 221 1 (nI 0)) 32 b := ⟨R.t.cong (fun i z hi => hfr _ z (by omega)), R.q.cong (fun i z hi => hfr _ z (by omega)), fun s hs => by rw [hfr _ s (by omega)]; exact R.tr hs, fun i hi => by rw [hfr _ i (by omega)]; exact R.tt hi, by rw [hfr _ 4 (by omega)]; exact R.y⟩
    have RH1 : RH (u2 f1 221 1 (nI 0)) hm8 H := RHh.fr (fun a z q1 q2 => hfr a z (by omega))
    have hC1 : ∀ j, j < r.1 → CmC (u2 f1 221 1 (nI 0)) j (r.2 j) := fun j hj => by
      have := k3 j hj
      unfold CmC at this ⊢
      rw [w2_ne (by omega), w2_ne (by omega), w2_ne (by omega), w2_ne (by omega)]
      exact this
    have hx := execute_ok S P R1 hB (m := r.1) (by omega) (by omega) RH1 hC1 y3 ((w2_ne (by omega)).trans k2)
    refine ⟨fun i hi => ?_, fun hi => ?_⟩
    · rw [hi] at hx
      dsimp only at hx
      obtain ⟨f2, z1, z2, z3, z4⟩ := hx
      have him := (fst_some.mp hi).1
      have hfr2 : ∀ a z, ¬(32 ≤ a ∧ a < 66) → ¬(83 ≤ a ∧ a < 227) → ¬(a = 31 ∧ z = 10) → u2 f2 31 10 (nI i) a z = f a z := fun a z q1 q2 q3 => by
        rw [w2_ne q3, z4 a z q1 (by omega), hfr a z (by omega)]
      refine ⟨u2 f2 31 10 (nI i), ?_, z2.fr (lo := 31) (hi := 32) (Fr.rf.u2 (by decide) (by decide)) (by decide), z3.fr (fun a z q1 q2 => w2_ne (by omega)), hfr2 31 9 (by omega) (by omega) (by omega), w2_eq _ _ _ _, ?_, fun a z q1 q2 q3 => hfr2 a z q1 q2 (by omega)⟩
      · rw [e174]
        simp (disch := omega) only [S.f, P.f, k1, m1_lt0, z1, neg_nI, cond_true, cond_false, bI_ok, bI_er, bV_ok, bV_er, bR_ok, bR_er, bD_ok, bD_er, bF_ok, bF_er, thr_ap, cl_nI, lt_nI, le_nI, eq_nI, m1_lt, nI_m1, m1_nI, nI_lt_m1, add_nI, sub_nI, addm_nI, z_addm, z_subm, mul_nI, fit1_0, fit1_1, fit2_n, HI_wI, HK_wI, HL_wI, HR_wI, ckK_wI, chI_wI, sI_wI, wI_wI, lz0, lz1, lz2, lz3, lz4, lz5, lz6, lz7, lz8, lz9, lz10, lz12, lz13, lz16, lz17, lz20, lz21, lz23, lz26, lz30, lz32, lz35, lz40, lz45, lz48, lz57, lz58, lz59, lz60, lz61, lz63, lz64, lz97, lz99, lz100, lz110, lz111, lz126, lz129, lz132, lz133, lz166, lz169, lz255, lz999, lz1183, lz1800, Nat.reduceAdd, Nat.reduceLT, Nat.reduceEqDiff, Nat.not_lt_zero, Nat.lt_irrefl, ↓reduceIte, Nat.zero_add, Nat.add_zero, ne_eq, not_true_eq_false, not_false_eq_true, reduceCtorEq]
      · rw [w2_ne (by omega), z4 221 1 (by omega) (by omega), w2_eq]
    · rw [hi] at hx
      dsimp only at hx
      obtain ⟨f2, z1, z2, z3, z4⟩ := hx
      have hfr2 : ∀ a z, ¬(32 ≤ a ∧ a < 66) → ¬(83 ≤ a ∧ a < 227) → f2 a z = f a z := fun a z q1 q2 => by
        rw [z4 a z q1 (by omega), hfr a z (by omega)]
      have g6 : f2 221 6 = nI r.1 := (z4 221 6 (by omega) (by omega)).trans ((w2_ne (by omega)).trans k2)
      refine ⟨f2, ?_, z2, z3, hfr2 31 9 (by omega) (by omega), hfr2 31 10 (by omega) (by omega), ?_, fun a z q1 q2 q3 => hfr2 a z q1 q2⟩
      · rw [e174]
        simp (disch := omega) only [S.f, P.f, k1, m1_lt0, z1, g6, cond_true, cond_false, bI_ok, bI_er, bV_ok, bV_er, bR_ok, bR_er, bD_ok, bD_er, bF_ok, bF_er, thr_ap, cl_nI, lt_nI, le_nI, eq_nI, m1_lt, nI_m1, m1_nI, nI_lt_m1, add_nI, sub_nI, addm_nI, z_addm, z_subm, mul_nI, fit1_0, fit1_1, fit2_n, HI_wI, HK_wI, HL_wI, HR_wI, ckK_wI, chI_wI, sI_wI, wI_wI, lz0, lz1, lz2, lz3, lz4, lz5, lz6, lz7, lz8, lz9, lz10, lz12, lz13, lz16, lz17, lz20, lz21, lz23, lz26, lz30, lz32, lz35, lz40, lz45, lz48, lz57, lz58, lz59, lz60, lz61, lz63, lz64, lz97, lz99, lz100, lz110, lz111, lz126, lz129, lz132, lz133, lz166, lz169, lz255, lz999, lz1183, lz1800, Nat.reduceAdd, Nat.reduceLT, Nat.reduceEqDiff, Nat.not_lt_zero, Nat.lt_irrefl, ↓reduceIte, Nat.zero_add, Nat.add_zero, ne_eq, not_true_eq_false, not_false_eq_true, reduceCtorEq]
      · rw [z4 221 1 (by omega) (by omega), w2_eq]
end PG
