/-! COPYING BOOKS -/
def cyF (f : Nat → Nat → Int32) (sa da n : Nat) : Nat → Nat → Int32 := fun a k => if a = da ∧ k < n then f sa k else f a k
theorem hcpy_cy (h : Hp) (sa da n : Nat) : hcpy h sa 0 da 0 n = wI h (cyF (HI h) sa da n) := by
  rw [hcpy_wI]
  congr 1
  funext a k
  unfold cyF
  by_cases q : a = da ∧ k < n
  · rw [if_pos ⟨q.1, Nat.zero_le _, by omega⟩, if_pos q]
    congr 1
    omega
  · rw [if_neg (by omega), if_neg q]
theorem cy_t {f : Nat → Nat → Int32} {sa da n k : Nat} (hk : k < n) : cyF f sa da n da k = f sa k := if_pos ⟨rfl, hk⟩
theorem cy_f {f : Nat → Nat → Int32} {sa da n a k : Nat} (ha : a ≠ da) : cyF f sa da n a k = f a k := if_neg (fun q => ha q.1)
theorem Fr.cy {lo hi sa da n : Nat} {f g : Nat → Nat → Int32} (h : Fr lo hi f g) (h1 : lo ≤ da) (h2 : da < hi) : Fr lo hi f (cyF g sa da n) := fun a j h3 => (cy_f (by omega)).trans (h a j h3)
theorem RT.copy {f g : Nat → Nat → Int32} {t u : Nat} {A D : AF} (R : RT f u A D) (h3 : g t 3 = f u 3) (h4 : g t 4 = f u 4) (hk : ∀ x, x < 30 → g (t + 1) x = f (u + 1) x) (ha : ∀ s, s < 3 → ∀ x, x < 30 → g (t + 3 + s) x = f (u + 3 + s) x) (hd : ∀ s, s < 3 → ∀ x, x < 30 → g (t + 7 + s) x = f (u + 7 + s) x) : RT g t A D := by
  have N := R.N
  have n30 := R.n30
  have i3 : tn g t = tn f u := rd_cg h3
  have i4 : tm g t = tm f u := rd_cg h4
  have ik : ∀ x, x < 30 → tk g t x = tk f u x := fun x hx => rd_cg (hk x hx)
  have ia : ∀ s, s < 3 → ∀ x, x < 30 → ta g t s x = ta f u s x := fun s hs x hx => rd_cg (ha s hs x hx)
  have id' : ∀ s, s < 3 → ∀ x, x < 30 → td g t s x = td f u s x := fun s hs x hx => rd_cg (hd s hs x hx)
  refine ⟨⟨N.1.cg h3, N.2.1.cg h4, fun x hx => (N.2.2.1 x hx).cg (hk x hx), fun s hs x hx => (N.2.2.2.1 s hs x hx).cg (ha s hs x hx), fun s hs x hx => (N.2.2.2.2 s hs x hx).cg (hd s hs x hx)⟩, ?_, ?_, ?_, ?_, ?_⟩
  · intro r r' h1 h2
    rw [ik r (by omega), ik r' (by omega)]
    exact R.lt h1 (by omega)
  · intro r hr
    rw [ia 0 (by decide) r (by omega), ia 1 (by decide) r (by omega), ia 2 (by decide) r (by omega)]
    exact R.ne (by omega)
  · intro s r hs hr
    rw [ik r (by omega), ia s hs r (by omega), id' s hs r (by omega)]
    exact ⟨R.a hs (by omega), R.d hs (by omega)⟩
  · intro s k hs hk hh
    exact R.no hs hk (fun r hr => by rw [← ik r (by omega)]; exact hh r (by omega))
  · rw [i4]
    exact R.m
theorem cpOK_g {h : Hp} (g : Nat → Nat → Int32) {sa da n : Nat} (h1 : HK h sa = 100 ∧ HL h sa = n) (h2 : HK h da = 100 ∧ HL h da = n) (hne : sa ≠ da) (hn : n < 2147483648) : cpOK (wI h g) sa da (nI 0) (nI 0) (nI n) 0 = true := cpOK_ii (h := wI h g) h1.1 h2.1 hne (Nat.le_of_eq h1.2.symm) (Nat.le_of_eq h2.2.symm) (by decide) hn
section CP
variable {h : Hp} {t u : Nat}
theorem cpTable_ok (S : TbS h t) (U : TbS h u) (hd : t + 10 ≤ u ∨ u + 10 ≤ t) : ∃ f', CL 37 [.ref t, .ref u] h = some (.ok .null, wI h f') ∧ (∀ A D, RT (HI h) u A D → RT f' t A D) ∧ Fr t (t + 10) (HI h) f' := by
  have k1 := fun g => cpOK_g (h := h) g U.2.2.2.2.1 S.2.2.2.2.1 (by omega) (by decide)
  have k2 : ∀ s, s < 3 → ∀ g, cpOK (wI h g) (u + 3 + s) (t + 3 + s) (nI 0) (nI 0) (nI 30) 0 = true ∧ cpOK (wI h g) (u + 7 + s) (t + 7 + s) (nI 0) (nI 0) (nI 30) 0 = true := fun s hs g => by
    obtain ⟨_, _, h3, h4⟩ := S.2.2.2.2.2.2.2 s hs
    obtain ⟨_, _, q3, q4⟩ := U.2.2.2.2.2.2.2 s hs
    exact ⟨cpOK_g g q3 h3 (by omega) (by decide), cpOK_g g q4 h4 (by omega) (by decide)⟩
  have hw0 : wgt [] = 0 := rfl
  have c0 : (nI 0).toNatClampNeg = 0 := rfl
  have c30 : (nI 30).toNatClampNeg = 30 := rfl
  have hst : CL 37 [.ref t, .ref u] h = RF 37 33 [.ref t, .ref u, .int (nI 0)] [] (wI h (cyF (u2 (u2 (HI h) t 3 (HI h u 3)) t 4 (HI h u 4)) (u + 1) (t + 1) 30)) := by
    rw [e37]
    simp (disch := omega) only [S.f, U.f, hw0, c0, c30, hcpy_cy, k1, w2_ne, cond_true, cond_false, bI_ok, bI_er, bV_ok, bV_er, bR_ok, bR_er, bD_ok, bD_er, bF_ok, bF_er, thr_ap, cl_nI, lt_nI, le_nI, eq_nI, m1_lt, nI_m1, m1_nI, nI_lt_m1, add_nI, sub_nI, addm_nI, z_addm, z_subm, mul_nI, fit1_0, fit1_1, fit2_n, HI_wI, HK_wI, HL_wI, HR_wI, ckK_wI, chI_wI, sI_wI, wI_wI, lz0, lz1, lz2, lz3, lz4, lz5, lz6, lz7, lz8, lz9, lz10, lz12, lz13, lz16, lz17, lz20, lz21, lz23, lz26, lz30, lz32, lz35, lz40, lz45, lz48, lz57, lz58, lz59, lz60, lz61, lz63, lz64, lz97, lz99, lz100, lz110, lz111, lz126, lz129, lz132, lz133, lz166, lz169, lz255, lz999, lz1183, lz1800, Nat.reduceAdd, Nat.reduceLT, Nat.reduceEqDiff, Nat.not_lt_zero, Nat.lt_irrefl, ↓reduceIte, Nat.zero_add, Nat.add_zero, ne_eq, not_true_eq_false, not_false_eq_true, reduceCtorEq]
  obtain ⟨g, g1, g2, g3, g4, g5, g6⟩ := lpEx (β := Nat → Nat → Int32) (n := 3) (x0 := cyF (u2 (u2 (HI h) t 3 (HI h u 3)) t 4 (HI h u 4)) (u + 1) (t + 1) 30) (F := fun i x => RF 37 33 [.ref t, .ref u, .int (nI i)] [] (wI h x)) (P := fun i g => Fr t (t + 10) (HI h) g ∧ g t 3 = HI h u 3 ∧ g t 4 = HI h u 4 ∧ (∀ x, x < 30 → g (t + 1) x = HI h (u + 1) x) ∧ ∀ s, s < i → ∀ x, x < 30 → g (t + 3 + s) x = HI h (u + 3 + s) x ∧ g (t + 7 + s) x = HI h (u + 7 + s) x) ⟨((Fr.rf.u2 (by omega) (by omega)).u2 (by omega) (by omega)).cy (by omega) (by omega), (cy_f (by omega)).trans ((w2_ne (by omega)).trans (w2_eq _ _ _ _)), (cy_f (by omega)).trans (w2_eq _ _ _ _), fun x hx => (cy_t hx).trans ((w2_ne (by omega)).trans (w2_ne (by omega))), fun s hs => by omega⟩ (fun s g hs hP => by
    obtain ⟨p1, p2, p3, p4, p5⟩ := hP
    refine ⟨cyF (cyF g (u + 3 + s) (t + 3 + s) 30) (u + 7 + s) (t + 7 + s) 30, ?_, (p1.cy (by omega) (by omega)).cy (by omega) (by omega), (cy_f (by omega)).trans ((cy_f (by omega)).trans p2), (cy_f (by omega)).trans ((cy_f (by omega)).trans p3), fun x hx => (cy_f (by omega)).trans ((cy_f (by omega)).trans (p4 x hx)), fun s' hs' x hx => ?_⟩
    · rw [e37_33]
      simp (disch := omega) only [S.f, U.f, S.s hs, U.s hs, hs, hw0, c0, c30, hcpy_cy, k2 s hs, cond_true, cond_false, bI_ok, bI_er, bV_ok, bV_er, bR_ok, bR_er, bD_ok, bD_er, bF_ok, bF_er, thr_ap, cl_nI, lt_nI, le_nI, eq_nI, m1_lt, nI_m1, m1_nI, nI_lt_m1, add_nI, sub_nI, addm_nI, z_addm, z_subm, mul_nI, fit1_0, fit1_1, fit2_n, HI_wI, HK_wI, HL_wI, HR_wI, ckK_wI, chI_wI, sI_wI, wI_wI, lz0, lz1, lz2, lz3, lz4, lz5, lz6, lz7, lz8, lz9, lz10, lz12, lz13, lz16, lz17, lz20, lz21, lz23, lz26, lz30, lz32, lz35, lz40, lz45, lz48, lz57, lz58, lz59, lz60, lz61, lz63, lz64, lz97, lz99, lz100, lz110, lz111, lz126, lz129, lz132, lz133, lz166, lz169, lz255, lz999, lz1183, lz1800, Nat.reduceAdd, Nat.reduceLT, Nat.reduceEqDiff, Nat.not_lt_zero, Nat.lt_irrefl, ↓reduceIte, Nat.zero_add, Nat.add_zero, ne_eq, not_true_eq_false, not_false_eq_true, reduceCtorEq]
    · by_cases q : s' = s
      · subst q
        refine ⟨(cy_f (by omega)).trans ((cy_t hx).trans (p1 _ _ (by omega))), (cy_t hx).trans ((cy_f (by omega)).trans (p1 _ _ (by omega)))⟩
      · have := p5 s' (by omega) x hx
        exact ⟨(cy_f (by omega)).trans ((cy_f (by omega)).trans this.1), (cy_f (by omega)).trans ((cy_f (by omega)).trans this.2)⟩)
  refine ⟨g, hst.trans (g1.trans ?_), fun A D R => R.copy g3 g4 g5 (fun s hs x hx => (g6 s hs x hx).1) (fun s hs x hx => (g6 s hs x hx).2), g2⟩
  rw [e37_33]
  simp (disch := omega) only [cond_true, cond_false, bI_ok, bI_er, bV_ok, bV_er, bR_ok, bR_er, bD_ok, bD_er, bF_ok, bF_er, thr_ap, cl_nI, lt_nI, le_nI, eq_nI, m1_lt, nI_m1, m1_nI, nI_lt_m1, add_nI, sub_nI, addm_nI, z_addm, z_subm, mul_nI, fit1_0, fit1_1, fit2_n, HI_wI, HK_wI, HL_wI, HR_wI, ckK_wI, chI_wI, sI_wI, wI_wI, lz0, lz1, lz2, lz3, lz4, lz5, lz6, lz7, lz8, lz9, lz10, lz12, lz13, lz16, lz17, lz20, lz21, lz23, lz26, lz30, lz32, lz35, lz40, lz45, lz48, lz57, lz58, lz59, lz60, lz61, lz63, lz64, lz97, lz99, lz100, lz110, lz111, lz126, lz129, lz132, lz133, lz166, lz169, lz255, lz999, lz1183, lz1800, Nat.reduceAdd, Nat.reduceLT, Nat.reduceEqDiff, Nat.not_lt_zero, Nat.lt_irrefl, ↓reduceIte, Nat.zero_add, Nat.add_zero, ne_eq, not_true_eq_false, not_false_eq_true, reduceCtorEq]
theorem cpBatch_ok {c d : Nat} (S : BtS h c) (U : BtS h d) (hd : c + 4 ≤ d ∨ d + 4 ≤ c) : ∃ f', CL 38 [.ref c, .ref d] h = some (.ok .null, wI h f') ∧ (∀ n Q, RB (HI h) d n Q → RB f' c n Q) ∧ Fr c (c + 4) (HI h) f' := by
  have hw0 : wgt [] = 0 := rfl
  have c0 : (nI 0).toNatClampNeg = 0 := rfl
  have c12 : (nI 12).toNatClampNeg = 12 := rfl
  have k1 := fun g => cpOK_g (h := h) g U.2.2.2.2.1 S.2.2.2.2.1 (by omega) (by decide)
  have k2 := fun g => cpOK_g (h := h) g U.2.2.2.2.2.1 S.2.2.2.2.2.1 (by omega) (by decide)
  have k3 := fun g => cpOK_g (h := h) g U.2.2.2.2.2.2 S.2.2.2.2.2.2 (by omega) (by decide)
  refine ⟨cyF (cyF (cyF (u2 (HI h) c 3 (HI h d 3)) (d + 1) (c + 1) 12) (d + 2) (c + 2) 12) (d + 3) (c + 3) 12, ?_, fun n Q R => ?_, (((Fr.rf.u2 (by omega) (by omega)).cy (by omega) (by omega)).cy (by omega) (by omega)).cy (by omega) (by omega)⟩
  · rw [e38]
    simp (disch := omega) only [S.f, U.f, hw0, c0, c12, hcpy_cy, k1, k2, k3, cond_true, cond_false, bI_ok, bI_er, bV_ok, bV_er, bR_ok, bR_er, bD_ok, bD_er, bF_ok, bF_er, thr_ap, cl_nI, lt_nI, le_nI, eq_nI, m1_lt, nI_m1, m1_nI, nI_lt_m1, add_nI, sub_nI, addm_nI, z_addm, z_subm, mul_nI, fit1_0, fit1_1, fit2_n, HI_wI, HK_wI, HL_wI, HR_wI, ckK_wI, chI_wI, sI_wI, wI_wI, lz0, lz1, lz2, lz3, lz4, lz5, lz6, lz7, lz8, lz9, lz10, lz12, lz13, lz16, lz17, lz20, lz21, lz23, lz26, lz30, lz32, lz35, lz40, lz45, lz48, lz57, lz58, lz59, lz60, lz61, lz63, lz64, lz97, lz99, lz100, lz110, lz111, lz126, lz129, lz132, lz133, lz166, lz169, lz255, lz999, lz1183, lz1800, Nat.reduceAdd, Nat.reduceLT, Nat.reduceEqDiff, Nat.not_lt_zero, Nat.lt_irrefl, ↓reduceIte, Nat.zero_add, Nat.add_zero, ne_eq, not_true_eq_false, not_false_eq_true, reduceCtorEq]
  · have n12 := R.1
    refine ⟨R.1, ?_, fun i hi => ?_⟩
    · rw [cy_f (by omega), cy_f (by omega), cy_f (by omega), w2_eq]
      exact R.2.1
    · have e1 : cyF (cyF (cyF (u2 (HI h) c 3 (HI h d 3)) (d + 1) (c + 1) 12) (d + 2) (c + 2) 12) (d + 3) (c + 3) 12 (c + 1) i = HI h (d + 1) i := by
        rw [cy_f (by omega), cy_f (by omega), cy_t (by omega), w2_ne (by omega)]
      have e2 : cyF (cyF (cyF (u2 (HI h) c 3 (HI h d 3)) (d + 1) (c + 1) 12) (d + 2) (c + 2) 12) (d + 3) (c + 3) 12 (c + 2) i = HI h (d + 2) i := by
        rw [cy_f (by omega), cy_t (by omega), cy_f (by omega), w2_ne (by omega)]
      have e3 : cyF (cyF (cyF (u2 (HI h) c 3 (HI h d 3)) (d + 1) (c + 1) 12) (d + 2) (c + 2) 12) (d + 3) (c + 3) 12 (c + 3) i = HI h (d + 3) i := by
        rw [cy_t (by omega), cy_f (by omega), cy_f (by omega), w2_ne (by omega)]
      rw [e1, e2, e3]
      exact R.2.2 i hi
theorem cpBook_ok {B C : Nat} (S : BkS h B) (U : BkS h C) (hd : B + 17 ≤ C ∨ C + 17 ≤ B) : ∃ f', CL 39 [.ref B, .ref C] h = some (.ok .null, wI h f') ∧ (∀ b, RK (HI h) C b → RK f' B b) ∧ Fr B (B + 17) (HI h) f' := by
  have hw0 : wgt [] = 0 := rfl
  have c0 : (nI 0).toNatClampNeg = 0 := rfl
  have c3 : (nI 3).toNatClampNeg = 3 := rfl
  have c7 : (nI 7).toNatClampNeg = 7 := rfl
  obtain ⟨g1, a1, a2, a3⟩ := cpTable_ok S.t U.t (by omega)
  obtain ⟨g2, b1, b2, b3⟩ := cpBatch_ok (S.wI g1).bt (U.wI g1).bt (by omega)
  rw [wI_wI] at b1
  rw [HI_wI] at b2 b3
  have k1 := fun g => cpOK_g (h := h) g U.2.2.2.2.2.2.2.1 S.2.2.2.2.2.2.2.1 (by omega) (by decide)
  have k2 := fun g => cpOK_g (h := h) g U.2.2.2.2.2.2.2.2 S.2.2.2.2.2.2.2.2 (by omega) (by decide)
  refine ⟨u2 (cyF (cyF g2 (C + 15) (B + 15) 3) (C + 16) (B + 16) 7) B 4 (g2 C 4), ?_, fun b R => ?_, ?_⟩
  · rw [e39]
    simp (disch := omega) only [S.f, U.f, S.ck, U.ck, a1, b1, hw0, c0, c3, c7, hcpy_cy, k1, k2, cy_f, cond_true, cond_false, bI_ok, bI_er, bV_ok, bV_er, bR_ok, bR_er, bD_ok, bD_er, bF_ok, bF_er, thr_ap, cl_nI, lt_nI, le_nI, eq_nI, m1_lt, nI_m1, m1_nI, nI_lt_m1, add_nI, sub_nI, addm_nI, z_addm, z_subm, mul_nI, fit1_0, fit1_1, fit2_n, HI_wI, HK_wI, HL_wI, HR_wI, ckK_wI, chI_wI, sI_wI, wI_wI, lz0, lz1, lz2, lz3, lz4, lz5, lz6, lz7, lz8, lz9, lz10, lz12, lz13, lz16, lz17, lz20, lz21, lz23, lz26, lz30, lz32, lz35, lz40, lz45, lz48, lz57, lz58, lz59, lz60, lz61, lz63, lz64, lz97, lz99, lz100, lz110, lz111, lz126, lz129, lz132, lz133, lz166, lz169, lz255, lz999, lz1183, lz1800, Nat.reduceAdd, Nat.reduceLT, Nat.reduceEqDiff, Nat.not_lt_zero, Nat.lt_irrefl, ↓reduceIte, Nat.zero_add, Nat.add_zero, ne_eq, not_true_eq_false, not_false_eq_true, reduceCtorEq]
  · have n12 := R.q.1
    have Rt := a2 _ _ R.t
    have Rq := b2 _ _ (R.q.cong (fun i x hi => a3 _ _ (by omega)))
    refine ⟨Rt.cong (fun i x hi => ?_), Rq.cong (fun i x hi => ?_), fun s hs => ?_, fun i hi => ?_, ?_⟩
    · rw [w2_ne (by omega), cy_f (by omega), cy_f (by omega)]
      exact b3 _ _ (by omega)
    · rw [w2_ne (by omega), cy_f (by omega), cy_f (by omega)]
    · rw [w2_ne (by omega), cy_f (by omega), cy_t hs, b3 (C + 15) s (by omega), a3 (C + 15) s (by omega)]
      exact R.tr hs
    · rw [w2_ne (by omega), cy_t hi, cy_f (by omega), b3 (C + 16) i (by omega), a3 (C + 16) i (by omega)]
      exact R.tt hi
    · rw [w2_eq, b3 C 4 (by omega), a3 C 4 (by omega)]
      exact R.y
  · intro a x ha
    rw [w2_ne (by omega), cy_f (by omega), cy_f (by omega), b3 a x (by omega)]
    exact a3 a x (by omega)
end CP
