/-! THE REFERENCE: a command read -/
def TM (f : Nat → Nat → Int32) (x : Nat → Nat) (n : Nat) : Prop := f 241 17 = nI n ∧ n ≤ 60 ∧ ∀ i, i < n → f 250 i = nI (x i) ∧ 32 ≤ x i ∧ x i ≤ 126
def FW (f f' : Nat → Nat → Int32) : Prop := ∀ a y, ¬(a = 241 ∧ (y = 18 ∨ y = 19)) → f' a y = f a y
theorem uu_self {α : Type} (f : Nat → Nat → α) (a k : Nat) {v : α} (h : f a k = v) : u2 f a k v = f := by
  funext b y
  unfold u2
  split
  · rename_i q
    rw [q.1, q.2, h]
  · rfl
def stw (w : Nat) : Nat := [0, 7, 12, 17, 23, 30, 35, 40].getD w 40
theorem stw_all : ∀ w, w < 7 → stw (w + 1) = stw w + lln (12 + 2 * w) ∧ stw (w + 1) ≤ lln 26 ∧ ∀ k, k < lln (12 + 2 * w) → lch 26 (stw w + k) = lch (12 + 2 * w) k := by decide +kernel
section RM2
variable {h : Hp} {x : Nat → Nat} {n : Nat}
theorem MdS.tc (S : MdS h) {i : Nat} (hi : i < 60) : chI h 250 100 (nI i) = true := chI_nI S.2.2.2.2.2.2.2.2.2.2.1.1 S.2.2.2.2.2.2.2.2.2.2.1.2 hi (by decide)
theorem MdS.nc (S : MdS h) {i : Nat} (hi : i < 120) : chI h 252 100 (nI i) = true := chI_nI S.2.2.2.2.2.2.2.2.2.2.2.2.1 S.2.2.2.2.2.2.2.2.2.2.2.2.2 hi (by decide)
theorem TM.fw {f f' : Nat → Nat → Int32} (T : TM f x n) (H : FW f f') : TM f' x n := ⟨(H 241 17 (by omega)).trans T.1, T.2.1, fun i hi => by rw [H 250 i (by omega)]; exact T.2.2 i hi⟩
theorem letter_h (S : MdS h) {f : Nat → Nat → Int32} (T : TM f x n) {p : Nat} (hp : f 241 18 = nI p) (hpn : p ≤ n) : CL 328 [.ref 241] (wI h f) = some (.ok (.int (if p < n then nI (x p) else -nI 1)), wI h f) := by
  obtain ⟨t1, t2, t3⟩ := T
  rw [e328]
  by_cases q : p < n
  · rw [if_pos q]
    simp (disch := omega) only [S.f, S.tc (show p < 60 by omega), hp, t1, q, (t3 p q).1, cond_true, cond_false, bI_ok, bI_er, bV_ok, bV_er, bR_ok, bR_er, bD_ok, bD_er, bF_ok, bF_er, thr_ap, cl_nI, lt_nI, le_nI, eq_nI, m1_lt, nI_m1, m1_nI, nI_lt_m1, add_nI, sub_nI, addm_nI, z_addm, z_subm, mul_nI, fit1_0, fit1_1, fit2_n, HI_wI, HK_wI, HL_wI, HR_wI, ckK_wI, chI_wI, sI_wI, wI_wI, lz0, lz1, lz2, lz3, lz4, lz5, lz6, lz7, lz8, lz9, lz10, lz12, lz13, lz16, lz17, lz20, lz21, lz23, lz26, lz30, lz32, lz35, lz40, lz45, lz48, lz57, lz58, lz59, lz60, lz61, lz63, lz64, lz97, lz99, lz100, lz110, lz111, lz126, lz129, lz132, lz133, lz166, lz169, lz255, lz999, lz1183, lz1800, Nat.reduceAdd, Nat.reduceLT, Nat.reduceEqDiff, Nat.not_lt_zero, Nat.lt_irrefl, ↓reduceIte, Nat.zero_add, Nat.add_zero, ne_eq, not_true_eq_false, not_false_eq_true, reduceCtorEq]
  · rw [if_neg q]
    simp (disch := omega) only [S.f, hp, t1, q, cond_true, cond_false, bI_ok, bI_er, bV_ok, bV_er, bR_ok, bR_er, bD_ok, bD_er, bF_ok, bF_er, thr_ap, cl_nI, lt_nI, le_nI, eq_nI, m1_lt, nI_m1, m1_nI, nI_lt_m1, add_nI, sub_nI, addm_nI, z_addm, z_subm, mul_nI, fit1_0, fit1_1, fit2_n, HI_wI, HK_wI, HL_wI, HR_wI, ckK_wI, chI_wI, sI_wI, wI_wI, lz0, lz1, lz2, lz3, lz4, lz5, lz6, lz7, lz8, lz9, lz10, lz12, lz13, lz16, lz17, lz20, lz21, lz23, lz26, lz30, lz32, lz35, lz40, lz45, lz48, lz57, lz58, lz59, lz60, lz61, lz63, lz64, lz97, lz99, lz100, lz110, lz111, lz126, lz129, lz132, lz133, lz166, lz169, lz255, lz999, lz1183, lz1800, Nat.reduceAdd, Nat.reduceLT, Nat.reduceEqDiff, Nat.not_lt_zero, Nat.lt_irrefl, ↓reduceIte, Nat.zero_add, Nat.add_zero, ne_eq, not_true_eq_false, not_false_eq_true, reduceCtorEq]
theorem inr_x {lo hi c : Nat} (h1 : lo < 128) (h2 : hi < 128) (hc : c < 128) : inr lo hi (nI c) = decide (lo ≤ c ∧ c ≤ hi) := by
  unfold inr
  rw [← Bool.decide_and, decide_eq_decide, le_nI (by omega) (by omega), le_nI (by omega) (by omega)]
theorem inr_m1 {lo hi : Nat} (h1 : lo < 128) : inr lo hi (-nI 1) = false := by
  unfold inr
  rw [Bool.and_eq_false_iff]
  left
  refine decide_eq_false (fun q => ?_)
  have h2 : ((-nI 1 : Int32)).toInt = -1 := by decide
  rw [Int32.le_iff_toInt_le, nI_toInt (by omega), h2] at q
  omega
theorem reads_ok (S : MdS h) {f : Nat → Nat → Int32} (T : TM f x n) {p lo hi : Nat} (hw : f 241 19 = -nI 1) (hp : f 241 18 = nI p) (hpn : p ≤ n) (h1 : lo < 128) (h2 : hi < 128) : CL 329 [.ref 241, .int (nI lo), .int (nI hi)] (wI h f) = if p < n ∧ lo ≤ x p ∧ x p ≤ hi then some (.ok (.int (nI (x p))), wI h (u2 f 241 18 (nI (p + 1)))) else some (.ok (.int (nI 48)), wI h (u2 f 241 19 (nI p))) := by
  have hl := letter_h S T hp hpn
  obtain ⟨t1, t2, t3⟩ := T
  rw [e329]
  by_cases q : p < n
  · rw [if_pos q] at hl
    obtain ⟨y1, y2, y3⟩ := t3 p q
    have hi' := isIn_ok (h := wI h f) (nI (x p)) (show lo < 2147483648 by omega) (show hi < 2147483648 by omega)
    rw [inr_x h1 h2 (by omega)] at hi'
    by_cases q2 : lo ≤ x p ∧ x p ≤ hi
    · rw [decide_eq_true q2, b2t] at hi'
      rw [if_pos (show p < n ∧ lo ≤ x p ∧ x p ≤ hi from ⟨q, q2⟩)]
      simp (disch := omega) only [S.f, S.tc (show p < 60 by omega), hw, hl, hi', hp, w2_ne, w2_eq, y1, Nat.add_sub_cancel, Nat.succ_ne_self, cond_true, cond_false, bI_ok, bI_er, bV_ok, bV_er, bR_ok, bR_er, bD_ok, bD_er, bF_ok, bF_er, thr_ap, cl_nI, lt_nI, le_nI, eq_nI, m1_lt, nI_m1, m1_nI, nI_lt_m1, add_nI, sub_nI, addm_nI, z_addm, z_subm, mul_nI, fit1_0, fit1_1, fit2_n, HI_wI, HK_wI, HL_wI, HR_wI, ckK_wI, chI_wI, sI_wI, wI_wI, lz0, lz1, lz2, lz3, lz4, lz5, lz6, lz7, lz8, lz9, lz10, lz12, lz13, lz16, lz17, lz20, lz21, lz23, lz26, lz30, lz32, lz35, lz40, lz45, lz48, lz57, lz58, lz59, lz60, lz61, lz63, lz64, lz97, lz99, lz100, lz110, lz111, lz126, lz129, lz132, lz133, lz166, lz169, lz255, lz999, lz1183, lz1800, Nat.reduceAdd, Nat.reduceLT, Nat.reduceEqDiff, Nat.not_lt_zero, Nat.lt_irrefl, ↓reduceIte, Nat.zero_add, Nat.add_zero, ne_eq, not_true_eq_false, not_false_eq_true, reduceCtorEq]
    · rw [decide_eq_false q2, b2f] at hi'
      rw [if_neg (show ¬(p < n ∧ lo ≤ x p ∧ x p ≤ hi) from fun z => q2 z.2)]
      simp (disch := omega) only [S.f, hw, hl, hi', hp, cond_true, cond_false, bI_ok, bI_er, bV_ok, bV_er, bR_ok, bR_er, bD_ok, bD_er, bF_ok, bF_er, thr_ap, cl_nI, lt_nI, le_nI, eq_nI, m1_lt, nI_m1, m1_nI, nI_lt_m1, add_nI, sub_nI, addm_nI, z_addm, z_subm, mul_nI, fit1_0, fit1_1, fit2_n, HI_wI, HK_wI, HL_wI, HR_wI, ckK_wI, chI_wI, sI_wI, wI_wI, lz0, lz1, lz2, lz3, lz4, lz5, lz6, lz7, lz8, lz9, lz10, lz12, lz13, lz16, lz17, lz20, lz21, lz23, lz26, lz30, lz32, lz35, lz40, lz45, lz48, lz57, lz58, lz59, lz60, lz61, lz63, lz64, lz97, lz99, lz100, lz110, lz111, lz126, lz129, lz132, lz133, lz166, lz169, lz255, lz999, lz1183, lz1800, Nat.reduceAdd, Nat.reduceLT, Nat.reduceEqDiff, Nat.not_lt_zero, Nat.lt_irrefl, ↓reduceIte, Nat.zero_add, Nat.add_zero, ne_eq, not_true_eq_false, not_false_eq_true, reduceCtorEq]
  · rw [if_neg q] at hl
    have hi' := isIn_ok (h := wI h f) (-nI 1) (show lo < 2147483648 by omega) (show hi < 2147483648 by omega)
    rw [inr_m1 h1, b2f] at hi'
    rw [if_neg (show ¬(p < n ∧ lo ≤ x p ∧ x p ≤ hi) from fun z => q z.1)]
    simp (disch := omega) only [S.f, hw, hl, hi', hp, cond_true, cond_false, bI_ok, bI_er, bV_ok, bV_er, bR_ok, bR_er, bD_ok, bD_er, bF_ok, bF_er, thr_ap, cl_nI, lt_nI, le_nI, eq_nI, m1_lt, nI_m1, m1_nI, nI_lt_m1, add_nI, sub_nI, addm_nI, z_addm, z_subm, mul_nI, fit1_0, fit1_1, fit2_n, HI_wI, HK_wI, HL_wI, HR_wI, ckK_wI, chI_wI, sI_wI, wI_wI, lz0, lz1, lz2, lz3, lz4, lz5, lz6, lz7, lz8, lz9, lz10, lz12, lz13, lz16, lz17, lz20, lz21, lz23, lz26, lz30, lz32, lz35, lz40, lz45, lz48, lz57, lz58, lz59, lz60, lz61, lz63, lz64, lz97, lz99, lz100, lz110, lz111, lz126, lz129, lz132, lz133, lz166, lz169, lz255, lz999, lz1183, lz1800, Nat.reduceAdd, Nat.reduceLT, Nat.reduceEqDiff, Nat.not_lt_zero, Nat.lt_irrefl, ↓reduceIte, Nat.zero_add, Nat.add_zero, ne_eq, not_true_eq_false, not_false_eq_true, reduceCtorEq]
theorem reads_w (S : MdS h) {f : Nat → Nat → Int32} {e lo hi : Nat} (hw : f 241 19 = nI e) (he : e < 100) : CL 329 [.ref 241, .int (nI lo), .int (nI hi)] (wI h f) = some (.ok (.int (nI 48)), wI h f) := by
  rw [e329]
  simp (disch := omega) only [S.f, hw, uu_self _ _ _ hw, cond_true, cond_false, bI_ok, bI_er, bV_ok, bV_er, bR_ok, bR_er, bD_ok, bD_er, bF_ok, bF_er, thr_ap, cl_nI, lt_nI, le_nI, eq_nI, m1_lt, nI_m1, m1_nI, nI_lt_m1, add_nI, sub_nI, addm_nI, z_addm, z_subm, mul_nI, fit1_0, fit1_1, fit2_n, HI_wI, HK_wI, HL_wI, HR_wI, ckK_wI, chI_wI, sI_wI, wI_wI, lz0, lz1, lz2, lz3, lz4, lz5, lz6, lz7, lz8, lz9, lz10, lz12, lz13, lz16, lz17, lz20, lz21, lz23, lz26, lz30, lz32, lz35, lz40, lz45, lz48, lz57, lz58, lz59, lz60, lz61, lz63, lz64, lz97, lz99, lz100, lz110, lz111, lz126, lz129, lz132, lz133, lz166, lz169, lz255, lz999, lz1183, lz1800, Nat.reduceAdd, Nat.reduceLT, Nat.reduceEqDiff, Nat.not_lt_zero, Nat.lt_irrefl, ↓reduceIte, Nat.zero_add, Nat.add_zero, ne_eq, not_true_eq_false, not_false_eq_true, reduceCtorEq]
theorem number_w (S : MdS h) {f : Nat → Nat → Int32} {e most : Nat} (hw : f 241 19 = nI e) (he : e < 100) (hm : most < 10) : CL 330 [.ref 241, .int (nI most)] (wI h f) = some (.ok (.int (nI 0)), wI h f) := by
  have hr : CL 329 [.ref 241, .int (nI 48), .int (nI 57)] (wI h f) = some (.ok (.int (nI 48)), wI h f) := reads_w S hw he
  rw [e330]
  simp (disch := omega) only [S.f, hr, cond_true, cond_false, bI_ok, bI_er, bV_ok, bV_er, bR_ok, bR_er, bD_ok, bD_er, bF_ok, bF_er, thr_ap, cl_nI, lt_nI, le_nI, eq_nI, m1_lt, nI_m1, m1_nI, nI_lt_m1, add_nI, sub_nI, addm_nI, z_addm, z_subm, mul_nI, fit1_0, fit1_1, fit2_n, HI_wI, HK_wI, HL_wI, HR_wI, ckK_wI, chI_wI, sI_wI, wI_wI, lz0, lz1, lz2, lz3, lz4, lz5, lz6, lz7, lz8, lz9, lz10, lz12, lz13, lz16, lz17, lz20, lz21, lz23, lz26, lz30, lz32, lz35, lz40, lz45, lz48, lz57, lz58, lz59, lz60, lz61, lz63, lz64, lz97, lz99, lz100, lz110, lz111, lz126, lz129, lz132, lz133, lz166, lz169, lz255, lz999, lz1183, lz1800, Nat.reduceAdd, Nat.reduceLT, Nat.reduceEqDiff, Nat.not_lt_zero, Nat.lt_irrefl, ↓reduceIte, Nat.zero_add, Nat.add_zero, ne_eq, not_true_eq_false, not_false_eq_true, reduceCtorEq]
  rw [e330_14]
  by_cases q : 1 < most <;> simp (disch := omega) only [S.f, q, hw, Nat.sub_self, cond_true, cond_false, bI_ok, bI_er, bV_ok, bV_er, bR_ok, bR_er, bD_ok, bD_er, bF_ok, bF_er, thr_ap, cl_nI, lt_nI, le_nI, eq_nI, m1_lt, nI_m1, m1_nI, nI_lt_m1, add_nI, sub_nI, addm_nI, z_addm, z_subm, mul_nI, fit1_0, fit1_1, fit2_n, HI_wI, HK_wI, HL_wI, HR_wI, ckK_wI, chI_wI, sI_wI, wI_wI, lz0, lz1, lz2, lz3, lz4, lz5, lz6, lz7, lz8, lz9, lz10, lz12, lz13, lz16, lz17, lz20, lz21, lz23, lz26, lz30, lz32, lz35, lz40, lz45, lz48, lz57, lz58, lz59, lz60, lz61, lz63, lz64, lz97, lz99, lz100, lz110, lz111, lz126, lz129, lz132, lz133, lz166, lz169, lz255, lz999, lz1183, lz1800, Nat.reduceAdd, Nat.reduceLT, Nat.reduceEqDiff, Nat.not_lt_zero, Nat.lt_irrefl, ↓reduceIte, Nat.zero_add, Nat.add_zero, ne_eq, not_true_eq_false, not_false_eq_true, reduceCtorEq]
theorem number_ok (S : MdS h) {f : Nat → Nat → Int32} (T : TM f x n) {p most : Nat} (hw : f 241 19 = -nI 1) (hp : f 241 18 = nI p) (hpn : p ≤ n) (hm : 1 ≤ most) (hm3 : most ≤ 3) : (∀ r, numA' x n most p = some r → ∃ f', CL 330 [.ref 241, .int (nI most)] (wI h f) = some (.ok (.int (nI r.1)), wI h f') ∧ f' 241 18 = nI r.2 ∧ f' 241 19 = -nI 1 ∧ FW f f') ∧ (numA' x n most p = none → ∃ f', CL 330 [.ref 241, .int (nI most)] (wI h f) = some (.ok (.int (nI 0)), wI h f') ∧ f' 241 19 = nI p ∧ FW f f') := by
  have hr := reads_ok S T (lo := 48) (hi := 57) hw hp hpn (by decide) (by decide)
  have loop : ∀ (k p v d : Nat) (g : Nat → Nat → Int32), d + k = most → FW f g → g 241 18 = nI p → g 241 19 = -nI 1 → p ≤ n → v < 10 ^ d → ∃ f', RF 330 14 [.ref 241, .int (nI most), .int (nI v), .int (nI d)] [] (wI h g) = some (.ok (.int (nI (dgA x n k p v).1)), wI h f') ∧ f' 241 18 = nI (dgA x n k p v).2 ∧ f' 241 19 = -nI 1 ∧ FW f f' := by
    intro k
    induction k with
    | zero =>
      intro p v d g hd H hg hg2 hpn hv
      refine ⟨g, ?_, hg, hg2, H⟩
      rw [e330_14]
      simp (disch := omega) only [show ¬(d < most) by omega, dgA, cond_true, cond_false, bI_ok, bI_er, bV_ok, bV_er, bR_ok, bR_er, bD_ok, bD_er, bF_ok, bF_er, thr_ap, cl_nI, lt_nI, le_nI, eq_nI, m1_lt, nI_m1, m1_nI, nI_lt_m1, add_nI, sub_nI, addm_nI, z_addm, z_subm, mul_nI, fit1_0, fit1_1, fit2_n, HI_wI, HK_wI, HL_wI, HR_wI, ckK_wI, chI_wI, sI_wI, wI_wI, lz0, lz1, lz2, lz3, lz4, lz5, lz6, lz7, lz8, lz9, lz10, lz12, lz13, lz16, lz17, lz20, lz21, lz23, lz26, lz30, lz32, lz35, lz40, lz45, lz48, lz57, lz58, lz59, lz60, lz61, lz63, lz64, lz97, lz99, lz100, lz110, lz111, lz126, lz129, lz132, lz133, lz166, lz169, lz255, lz999, lz1183, lz1800, Nat.reduceAdd, Nat.reduceLT, Nat.reduceEqDiff, Nat.not_lt_zero, Nat.lt_irrefl, ↓reduceIte, Nat.zero_add, Nat.add_zero, ne_eq, not_true_eq_false, not_false_eq_true, reduceCtorEq]
    | succ k ih =>
      intro p v d g hd H hg hg2 hpn hv
      have Tg := T.fw H
      have hl := letter_h S Tg hg hpn
      have hv4 : v < 10000 := by
        have : 10 ^ d ≤ 10 ^ 3 := Nat.pow_le_pow_right (by decide) (by omega)
        omega
      have hr2 := reads_ok S Tg (lo := 48) (hi := 57) hg2 hg hpn (by decide) (by decide)
      by_cases q : isD x n p = true
      · have hq := of_decide_eq_true q
        obtain ⟨y1, y2, y3⟩ := T.2.2 p hq.1
        rw [if_pos hq] at hr2
        rw [if_pos hq.1] at hl
        have hi' := isIn_ok (h := wI h g) (nI (x p)) (show 48 < 2147483648 by decide) (show 57 < 2147483648 by decide)
        rw [inr_x (by decide) (by decide) (by omega), decide_eq_true hq.2, b2t] at hi'
        obtain ⟨f', k1, k2, k3, k4⟩ := ih (p + 1) (v * 10 + (x p - 48)) (d + 1) (u2 g 241 18 (nI (p + 1))) (by omega) (fun a y hne => (w2_ne (by omega)).trans (H a y hne)) (w2_eq _ _ _ _) ((w2_ne (by omega)).trans hg2) (by omega) (by rw [Nat.pow_succ]; omega)
        have ev : 10 * v + x p - 48 = v * 10 + (x p - 48) := by omega
        refine ⟨f', ?_, ?_, k3, k4⟩
        · simp only [dgA]
          rw [if_pos q, ← k1, e330_14]
          simp (disch := omega) only [S.f, show d < most by omega, hg2, hl, hi', hr2, ev, Nat.succ_ne_self, cond_true, cond_false, bI_ok, bI_er, bV_ok, bV_er, bR_ok, bR_er, bD_ok, bD_er, bF_ok, bF_er, thr_ap, cl_nI, lt_nI, le_nI, eq_nI, m1_lt, nI_m1, m1_nI, nI_lt_m1, add_nI, sub_nI, addm_nI, z_addm, z_subm, mul_nI, fit1_0, fit1_1, fit2_n, HI_wI, HK_wI, HL_wI, HR_wI, ckK_wI, chI_wI, sI_wI, wI_wI, lz0, lz1, lz2, lz3, lz4, lz5, lz6, lz7, lz8, lz9, lz10, lz12, lz13, lz16, lz17, lz20, lz21, lz23, lz26, lz30, lz32, lz35, lz40, lz45, lz48, lz57, lz58, lz59, lz60, lz61, lz63, lz64, lz97, lz99, lz100, lz110, lz111, lz126, lz129, lz132, lz133, lz166, lz169, lz255, lz999, lz1183, lz1800, Nat.reduceAdd, Nat.reduceLT, Nat.reduceEqDiff, Nat.not_lt_zero, Nat.lt_irrefl, ↓reduceIte, Nat.zero_add, Nat.add_zero, ne_eq, not_true_eq_false, not_false_eq_true, reduceCtorEq]
        · simp only [dgA]
          rw [if_pos q]
          exact k2
      · refine ⟨g, ?_, ?_, hg2, H⟩
        · simp only [dgA]
          rw [if_neg q, e330_14]
          by_cases q1 : p < n
          · obtain ⟨y1, y2, y3⟩ := T.2.2 p q1
            rw [if_pos q1] at hl
            have hi' := isIn_ok (h := wI h g) (nI (x p)) (show 48 < 2147483648 by decide) (show 57 < 2147483648 by decide)
            rw [inr_x (by decide) (by decide) (by omega), decide_eq_false (fun z => q (decide_eq_true ⟨q1, z⟩)), b2f] at hi'
            simp (disch := omega) only [S.f, show d < most by omega, hg2, hl, hi', cond_true, cond_false, bI_ok, bI_er, bV_ok, bV_er, bR_ok, bR_er, bD_ok, bD_er, bF_ok, bF_er, thr_ap, cl_nI, lt_nI, le_nI, eq_nI, m1_lt, nI_m1, m1_nI, nI_lt_m1, add_nI, sub_nI, addm_nI, z_addm, z_subm, mul_nI, fit1_0, fit1_1, fit2_n, HI_wI, HK_wI, HL_wI, HR_wI, ckK_wI, chI_wI, sI_wI, wI_wI, lz0, lz1, lz2, lz3, lz4, lz5, lz6, lz7, lz8, lz9, lz10, lz12, lz13, lz16, lz17, lz20, lz21, lz23, lz26, lz30, lz32, lz35, lz40, lz45, lz48, lz57, lz58, lz59, lz60, lz61, lz63, lz64, lz97, lz99, lz100, lz110, lz111, lz126, lz129, lz132, lz133, lz166, lz169, lz255, lz999, lz1183, lz1800, Nat.reduceAdd, Nat.reduceLT, Nat.reduceEqDiff, Nat.not_lt_zero, Nat.lt_irrefl, ↓reduceIte, Nat.zero_add, Nat.add_zero, ne_eq, not_true_eq_false, not_false_eq_true, reduceCtorEq]
          · rw [if_neg q1] at hl
            have hi' := isIn_ok (h := wI h g) (-nI 1) (show 48 < 2147483648 by decide) (show 57 < 2147483648 by decide)
            rw [inr_m1 (by decide), b2f] at hi'
            simp (disch := omega) only [S.f, show d < most by omega, hg2, hl, hi', cond_true, cond_false, bI_ok, bI_er, bV_ok, bV_er, bR_ok, bR_er, bD_ok, bD_er, bF_ok, bF_er, thr_ap, cl_nI, lt_nI, le_nI, eq_nI, m1_lt, nI_m1, m1_nI, nI_lt_m1, add_nI, sub_nI, addm_nI, z_addm, z_subm, mul_nI, fit1_0, fit1_1, fit2_n, HI_wI, HK_wI, HL_wI, HR_wI, ckK_wI, chI_wI, sI_wI, wI_wI, lz0, lz1, lz2, lz3, lz4, lz5, lz6, lz7, lz8, lz9, lz10, lz12, lz13, lz16, lz17, lz20, lz21, lz23, lz26, lz30, lz32, lz35, lz40, lz45, lz48, lz57, lz58, lz59, lz60, lz61, lz63, lz64, lz97, lz99, lz100, lz110, lz111, lz126, lz129, lz132, lz133, lz166, lz169, lz255, lz999, lz1183, lz1800, Nat.reduceAdd, Nat.reduceLT, Nat.reduceEqDiff, Nat.not_lt_zero, Nat.lt_irrefl, ↓reduceIte, Nat.zero_add, Nat.add_zero, ne_eq, not_true_eq_false, not_false_eq_true, reduceCtorEq]
        · simp only [dgA]
          rw [if_neg q]
          exact hg
  unfold numA'
  by_cases q : isD x n p = true
  · rw [if_pos q]
    refine ⟨fun r hr' => ?_, fun hr' => (by cases hr')⟩
    cases hr'
    have hq := of_decide_eq_true q
    rw [if_pos hq] at hr
    obtain ⟨y1, y2, y3⟩ := T.2.2 p hq.1
    obtain ⟨f', k1, k2, k3, k4⟩ := loop (most - 1) (p + 1) (x p - 48) 1 (u2 f 241 18 (nI (p + 1))) (by omega) (fun a y hne => w2_ne (by omega)) (w2_eq _ _ _ _) ((w2_ne (by omega)).trans hw) (by omega) (by omega)
    refine ⟨f', ?_, k2, k3, k4⟩
    rw [← k1, e330]
    simp (disch := omega) only [S.f, hr, cond_true, cond_false, bI_ok, bI_er, bV_ok, bV_er, bR_ok, bR_er, bD_ok, bD_er, bF_ok, bF_er, thr_ap, cl_nI, lt_nI, le_nI, eq_nI, m1_lt, nI_m1, m1_nI, nI_lt_m1, add_nI, sub_nI, addm_nI, z_addm, z_subm, mul_nI, fit1_0, fit1_1, fit2_n, HI_wI, HK_wI, HL_wI, HR_wI, ckK_wI, chI_wI, sI_wI, wI_wI, lz0, lz1, lz2, lz3, lz4, lz5, lz6, lz7, lz8, lz9, lz10, lz12, lz13, lz16, lz17, lz20, lz21, lz23, lz26, lz30, lz32, lz35, lz40, lz45, lz48, lz57, lz58, lz59, lz60, lz61, lz63, lz64, lz97, lz99, lz100, lz110, lz111, lz126, lz129, lz132, lz133, lz166, lz169, lz255, lz999, lz1183, lz1800, Nat.reduceAdd, Nat.reduceLT, Nat.reduceEqDiff, Nat.not_lt_zero, Nat.lt_irrefl, ↓reduceIte, Nat.zero_add, Nat.add_zero, ne_eq, not_true_eq_false, not_false_eq_true, reduceCtorEq]
  · rw [if_neg q]
    refine ⟨fun r hr' => (by cases hr'), fun _ => ?_⟩
    rw [if_neg (fun z => q (decide_eq_true z))] at hr
    refine ⟨u2 f 241 19 (nI p), ?_, w2_eq _ _ _ _, fun a y hne => w2_ne (by omega)⟩
    rw [e330]
    have hn60 := T.2.1
    have g9 : u2 f 241 19 (nI p) 241 19 = nI p := w2_eq _ _ _ _
    simp (disch := omega) only [S.f, hr, Nat.sub_self, cond_true, cond_false, bI_ok, bI_er, bV_ok, bV_er, bR_ok, bR_er, bD_ok, bD_er, bF_ok, bF_er, thr_ap, cl_nI, lt_nI, le_nI, eq_nI, m1_lt, nI_m1, m1_nI, nI_lt_m1, add_nI, sub_nI, addm_nI, z_addm, z_subm, mul_nI, fit1_0, fit1_1, fit2_n, HI_wI, HK_wI, HL_wI, HR_wI, ckK_wI, chI_wI, sI_wI, wI_wI, lz0, lz1, lz2, lz3, lz4, lz5, lz6, lz7, lz8, lz9, lz10, lz12, lz13, lz16, lz17, lz20, lz21, lz23, lz26, lz30, lz32, lz35, lz40, lz45, lz48, lz57, lz58, lz59, lz60, lz61, lz63, lz64, lz97, lz99, lz100, lz110, lz111, lz126, lz129, lz132, lz133, lz166, lz169, lz255, lz999, lz1183, lz1800, Nat.reduceAdd, Nat.reduceLT, Nat.reduceEqDiff, Nat.not_lt_zero, Nat.lt_irrefl, ↓reduceIte, Nat.zero_add, Nat.add_zero, ne_eq, not_true_eq_false, not_false_eq_true, reduceCtorEq]
    rw [e330_14]
    by_cases q1 : 1 < most <;> simp (disch := omega) only [S.f, q1, g9, cond_true, cond_false, bI_ok, bI_er, bV_ok, bV_er, bR_ok, bR_er, bD_ok, bD_er, bF_ok, bF_er, thr_ap, cl_nI, lt_nI, le_nI, eq_nI, m1_lt, nI_m1, m1_nI, nI_lt_m1, add_nI, sub_nI, addm_nI, z_addm, z_subm, mul_nI, fit1_0, fit1_1, fit2_n, HI_wI, HK_wI, HL_wI, HR_wI, ckK_wI, chI_wI, sI_wI, wI_wI, lz0, lz1, lz2, lz3, lz4, lz5, lz6, lz7, lz8, lz9, lz10, lz12, lz13, lz16, lz17, lz20, lz21, lz23, lz26, lz30, lz32, lz35, lz40, lz45, lz48, lz57, lz58, lz59, lz60, lz61, lz63, lz64, lz97, lz99, lz100, lz110, lz111, lz126, lz129, lz132, lz133, lz166, lz169, lz255, lz999, lz1183, lz1800, Nat.reduceAdd, Nat.reduceLT, Nat.reduceEqDiff, Nat.not_lt_zero, Nat.lt_irrefl, ↓reduceIte, Nat.zero_add, Nat.add_zero, ne_eq, not_true_eq_false, not_false_eq_true, reduceCtorEq]
theorem startOf_ok {w : Nat} (hw : w ≤ 7) (g : Hp) : CL 326 [.int (nI w)] g = some (.ok (.int (nI (stw w))), g) := by
  have hw' : w = 0 ∨ w = 1 ∨ w = 2 ∨ w = 3 ∨ w = 4 ∨ w = 5 ∨ w = 6 ∨ w = 7 := by omega
  rcases hw' with rfl | rfl | rfl | rfl | rfl | rfl | rfl | rfl
  · exact ((e326 ..).trans ((e326_1 ..).trans rfl : _ = RF 326 44 [.int (nI 0)] [] g)).trans (e326_44 ..)
  · exact ((e326 ..).trans ((e326_1 ..).trans rfl : _ = RF 326 46 [.int (nI 1)] [] g)).trans (e326_46 ..)
  · exact ((e326 ..).trans ((e326_1 ..).trans rfl : _ = RF 326 49 [.int (nI 2)] [] g)).trans (e326_49 ..)
  · exact ((e326 ..).trans ((e326_1 ..).trans rfl : _ = RF 326 52 [.int (nI 3)] [] g)).trans (e326_52 ..)
  · exact ((e326 ..).trans ((e326_1 ..).trans rfl : _ = RF 326 55 [.int (nI 4)] [] g)).trans (e326_55 ..)
  · exact ((e326 ..).trans ((e326_1 ..).trans rfl : _ = RF 326 58 [.int (nI 5)] [] g)).trans (e326_58 ..)
  · exact ((e326 ..).trans ((e326_1 ..).trans rfl : _ = RF 326 61 [.int (nI 6)] [] g)).trans (e326_61 ..)
  · exact ((e326 ..).trans ((e326_1 ..).trans rfl : _ = RF 326 64 [.int (nI 7)] [] g)).trans (e326_64 ..)
theorem kindHere_ok (S : MdS h) (K : KoS h) {f : Nat → Nat → Int32} (F : Ko f) (T : TM f x n) {p : Nat} (hw : f 241 19 = -nI 1) (hp : f 241 18 = nI p) (hpn : p ≤ n) : (∀ w, kwA x n p = some w → CL 327 [.ref 241] (wI h f) = some (.ok (.int (nI w)), wI h (u2 f 241 18 (nI (p + lln (12 + 2 * w)))))) ∧ (kwA x n p = none → CL 327 [.ref 241] (wI h f) = some (.ok (.int (-nI 1)), wI h (u2 f 241 19 (nI (p + lgA x n p 7))))) := by
  have hn60 := T.2.1
  have hck : ckK h 26 11 = true := by
    obtain ⟨k1, _⟩ := K 26 (by decide) (by decide)
    refine ck_of ?_
    show (h.2.1 26).1 = 11
    rw [k1]
    decide
  have key : ∀ (k i : Nat) (v w : Value), i + k = 7 → (∀ j, j < i → cmm x n p (12 + 2 * j) ≠ lln (12 + 2 * j)) → (∀ y, kwA x n p = some y → RF 327 9 [.ref 241, .int (nI (p + lgA x n p i)), .int (-nI 1), .int (nI i), v, w] [] (wI h f) = some (.ok (.int (nI y)), wI h (u2 f 241 18 (nI (p + lln (12 + 2 * y)))))) ∧ (kwA x n p = none → RF 327 9 [.ref 241, .int (nI (p + lgA x n p i)), .int (-nI 1), .int (nI i), v, w] [] (wI h f) = some (.ok (.int (-nI 1)), wI h (u2 f 241 19 (nI (p + lgA x n p 7))))) := by
    intro k
    induction k with
    | zero =>
      intro i v w hk hno
      have e : i = 7 := by omega
      subst e
      have hkw : kwA x n p = none := fst_none.mpr (fun j hj => decide_eq_false (hno j hj))
      have hlg := lgA_n (x := x) hpn 7
      have h18 : u2 f 241 19 (nI (p + lgA x n p 7)) 241 18 = nI p := (w2_ne (by omega)).trans hp
      refine ⟨fun y hy => (by rw [hkw] at hy; cases hy), fun _ => ?_⟩
      rw [e327_9]
      simp (disch := omega) only [S.f, h18, uu_self _ _ _ h18, cond_true, cond_false, bI_ok, bI_er, bV_ok, bV_er, bR_ok, bR_er, bD_ok, bD_er, bF_ok, bF_er, thr_ap, cl_nI, lt_nI, le_nI, eq_nI, m1_lt, nI_m1, m1_nI, nI_lt_m1, add_nI, sub_nI, addm_nI, z_addm, z_subm, mul_nI, fit1_0, fit1_1, fit2_n, HI_wI, HK_wI, HL_wI, HR_wI, ckK_wI, chI_wI, sI_wI, wI_wI, lz0, lz1, lz2, lz3, lz4, lz5, lz6, lz7, lz8, lz9, lz10, lz12, lz13, lz16, lz17, lz20, lz21, lz23, lz26, lz30, lz32, lz35, lz40, lz45, lz48, lz57, lz58, lz59, lz60, lz61, lz63, lz64, lz97, lz99, lz100, lz110, lz111, lz126, lz129, lz132, lz133, lz166, lz169, lz255, lz999, lz1183, lz1800, Nat.reduceAdd, Nat.reduceLT, Nat.reduceEqDiff, Nat.not_lt_zero, Nat.lt_irrefl, ↓reduceIte, Nat.zero_add, Nat.add_zero, ne_eq, not_true_eq_false, not_false_eq_true, reduceCtorEq]
    | succ k ih =>
      intro i v w hk hno
      have hi : i < 7 := by omega
      obtain ⟨s1, s2, s3⟩ := stw_all i hi
      have h1 := startOf_ok (w := i) (by omega) (wI h f)
      have h2 := startOf_ok (w := i + 1) (by omega) (wI h f)
      have hll := lln_lt (12 + 2 * i)
      have hl26 := lln_lt 26
      have hcl := cmm_le x n p (12 + 2 * i)
      have hlg := (lgA_n (x := x) hpn i).2
      have hmax : (if p + lgA x n p i < p + cmm x n p (12 + 2 * i) then nI (p + cmm x n p (12 + 2 * i)) else nI (p + lgA x n p i)) = nI (p + lgA x n p (i + 1)) := by
        simp only [lgA]
        by_cases q : lgA x n p i < cmm x n p (12 + 2 * i)
        · rw [if_pos q, if_pos (by omega)]
        · rw [if_neg q, if_neg (by omega)]
      have hin : RF 327 36 [.ref 241, .int (nI (p + lgA x n p i)), .int (-nI 1), .int (nI i), .int (nI (lln (12 + 2 * i))), .int (nI 0)] [] (wI h f) = if cmm x n p (12 + 2 * i) = lln (12 + 2 * i) then RF 327 9 [.ref 241, .int (nI (p + lgA x n p (i + 1))), .int (nI i), .int (nI (i + 1)), .int (nI (lln (12 + 2 * i))), .int (nI (lln (12 + 2 * i)))] [] (wI h f) else RF 327 9 [.ref 241, .int (nI (p + lgA x n p (i + 1))), .int (-nI 1), .int (nI (i + 1)), .int (nI (lln (12 + 2 * i))), .int (nI (cmm x n p (12 + 2 * i)))] [] (wI h f) := by
        refine (lpFst (p := fun j => !decide (p + j < n ∧ x (p + j) = lch (12 + 2 * i) j)) (n := lln (12 + 2 * i)) (F := fun j => RF 327 36 [.ref 241, .int (nI (p + lgA x n p i)), .int (-nI 1), .int (nI i), .int (nI (lln (12 + 2 * i))), .int (nI j)] [] (wI h f)) (found := fun j => RF 327 9 [.ref 241, .int (if p + lgA x n p i < p + j then nI (p + j) else nI (p + lgA x n p i)), .int (-nI 1), .int (nI (i + 1)), .int (nI (lln (12 + 2 * i))), .int (nI j)] [] (wI h f)) (dflt := RF 327 9 [.ref 241, .int (if p + lgA x n p i < p + lln (12 + 2 * i) then nI (p + lln (12 + 2 * i)) else nI (p + lgA x n p i)), .int (nI i), .int (nI (i + 1)), .int (nI (lln (12 + 2 * i))), .int (nI (lln (12 + 2 * i)))] [] (wI h f)) (fun j hj => ?_) ?_).trans ?_
        · have hch := charAt_ok (f := f) K F (a := 26) (i := stw i + j) (by decide) (by decide) (by decide) (by omega)
          rw [s3 j hj] at hch
          have hl8 : lch (12 + 2 * i) j < 128 := ((litc_all ((12 + 2 * i - 4) / 2) (by omega)).2 j hj).2
          try dsimp only
          by_cases q : p + j < n
          · obtain ⟨y1, y2, y3⟩ := T.2.2 (p + j) q
            have t1 := T.1
            by_cases q2 : x (p + j) = lch (12 + 2 * i) j
            · have hz : (!decide (p + j < n ∧ x (p + j) = lch (12 + 2 * i) j)) = false := by rw [decide_eq_true ⟨q, q2⟩]; rfl
              rw [q2] at y1
              rw [hz, e327_36]
              simp (disch := omega) only [S.f, S.tc (show p + j < 60 by omega), hck, hj, hp, t1, q, y1, h1, hch, Bool.false_eq_true, cond_true, cond_false, bI_ok, bI_er, bV_ok, bV_er, bR_ok, bR_er, bD_ok, bD_er, bF_ok, bF_er, thr_ap, cl_nI, lt_nI, le_nI, eq_nI, m1_lt, nI_m1, m1_nI, nI_lt_m1, add_nI, sub_nI, addm_nI, z_addm, z_subm, mul_nI, fit1_0, fit1_1, fit2_n, HI_wI, HK_wI, HL_wI, HR_wI, ckK_wI, chI_wI, sI_wI, wI_wI, lz0, lz1, lz2, lz3, lz4, lz5, lz6, lz7, lz8, lz9, lz10, lz12, lz13, lz16, lz17, lz20, lz21, lz23, lz26, lz30, lz32, lz35, lz40, lz45, lz48, lz57, lz58, lz59, lz60, lz61, lz63, lz64, lz97, lz99, lz100, lz110, lz111, lz126, lz129, lz132, lz133, lz166, lz169, lz255, lz999, lz1183, lz1800, Nat.reduceAdd, Nat.reduceLT, Nat.reduceEqDiff, Nat.not_lt_zero, Nat.lt_irrefl, ↓reduceIte, Nat.zero_add, Nat.add_zero, ne_eq, not_true_eq_false, not_false_eq_true, reduceCtorEq]
            · have hz : (!decide (p + j < n ∧ x (p + j) = lch (12 + 2 * i) j)) = true := by rw [decide_eq_false (fun z => q2 z.2)]; rfl
              rw [hz, e327_36]
              simp (disch := omega) only [S.f, S.tc (show p + j < 60 by omega), hck, hj, hp, t1, q, y1, h1, hch, q2, show ¬(j = lln (12 + 2 * i)) by omega, cond_true, cond_false, bI_ok, bI_er, bV_ok, bV_er, bR_ok, bR_er, bD_ok, bD_er, bF_ok, bF_er, thr_ap, cl_nI, lt_nI, le_nI, eq_nI, m1_lt, nI_m1, m1_nI, nI_lt_m1, add_nI, sub_nI, addm_nI, z_addm, z_subm, mul_nI, fit1_0, fit1_1, fit2_n, HI_wI, HK_wI, HL_wI, HR_wI, ckK_wI, chI_wI, sI_wI, wI_wI, lz0, lz1, lz2, lz3, lz4, lz5, lz6, lz7, lz8, lz9, lz10, lz12, lz13, lz16, lz17, lz20, lz21, lz23, lz26, lz30, lz32, lz35, lz40, lz45, lz48, lz57, lz58, lz59, lz60, lz61, lz63, lz64, lz97, lz99, lz100, lz110, lz111, lz126, lz129, lz132, lz133, lz166, lz169, lz255, lz999, lz1183, lz1800, Nat.reduceAdd, Nat.reduceLT, Nat.reduceEqDiff, Nat.not_lt_zero, Nat.lt_irrefl, ↓reduceIte, Nat.zero_add, Nat.add_zero, ne_eq, not_true_eq_false, not_false_eq_true, reduceCtorEq]
          · have hz : (!decide (p + j < n ∧ x (p + j) = lch (12 + 2 * i) j)) = true := by rw [decide_eq_false (fun z => q z.1)]; rfl
            have t1 := T.1
            rw [hz, e327_36]
            simp (disch := omega) only [S.f, hj, hp, t1, q, show ¬(j = lln (12 + 2 * i)) by omega, cond_true, cond_false, bI_ok, bI_er, bV_ok, bV_er, bR_ok, bR_er, bD_ok, bD_er, bF_ok, bF_er, thr_ap, cl_nI, lt_nI, le_nI, eq_nI, m1_lt, nI_m1, m1_nI, nI_lt_m1, add_nI, sub_nI, addm_nI, z_addm, z_subm, mul_nI, fit1_0, fit1_1, fit2_n, HI_wI, HK_wI, HL_wI, HR_wI, ckK_wI, chI_wI, sI_wI, wI_wI, lz0, lz1, lz2, lz3, lz4, lz5, lz6, lz7, lz8, lz9, lz10, lz12, lz13, lz16, lz17, lz20, lz21, lz23, lz26, lz30, lz32, lz35, lz40, lz45, lz48, lz57, lz58, lz59, lz60, lz61, lz63, lz64, lz97, lz99, lz100, lz110, lz111, lz126, lz129, lz132, lz133, lz166, lz169, lz255, lz999, lz1183, lz1800, Nat.reduceAdd, Nat.reduceLT, Nat.reduceEqDiff, Nat.not_lt_zero, Nat.lt_irrefl, ↓reduceIte, Nat.zero_add, Nat.add_zero, ne_eq, not_true_eq_false, not_false_eq_true, reduceCtorEq]
        · try dsimp only
          rw [e327_36]
          simp (disch := omega) only [S.f, hp, cond_true, cond_false, bI_ok, bI_er, bV_ok, bV_er, bR_ok, bR_er, bD_ok, bD_er, bF_ok, bF_er, thr_ap, cl_nI, lt_nI, le_nI, eq_nI, m1_lt, nI_m1, m1_nI, nI_lt_m1, add_nI, sub_nI, addm_nI, z_addm, z_subm, mul_nI, fit1_0, fit1_1, fit2_n, HI_wI, HK_wI, HL_wI, HR_wI, ckK_wI, chI_wI, sI_wI, wI_wI, lz0, lz1, lz2, lz3, lz4, lz5, lz6, lz7, lz8, lz9, lz10, lz12, lz13, lz16, lz17, lz20, lz21, lz23, lz26, lz30, lz32, lz35, lz40, lz45, lz48, lz57, lz58, lz59, lz60, lz61, lz63, lz64, lz97, lz99, lz100, lz110, lz111, lz126, lz129, lz132, lz133, lz166, lz169, lz255, lz999, lz1183, lz1800, Nat.reduceAdd, Nat.reduceLT, Nat.reduceEqDiff, Nat.not_lt_zero, Nat.lt_irrefl, ↓reduceIte, Nat.zero_add, Nat.add_zero, ne_eq, not_true_eq_false, not_false_eq_true, reduceCtorEq]
        · unfold cmm at hmax ⊢
          cases hq : fst? (fun j => !decide (p + j < n ∧ x (p + j) = lch (12 + 2 * i) j)) (lln (12 + 2 * i)) with
          | none =>
            rw [hq] at hmax
            have hmax : (if p + lgA x n p i < p + lln (12 + 2 * i) then nI (p + lln (12 + 2 * i)) else nI (p + lgA x n p i)) = nI (p + lgA x n p (i + 1)) := hmax
            rw [hmax]
            exact (if_pos rfl).symm
          | some j =>
            rw [hq] at hmax
            have hj := (fst_some.mp hq).1
            have hmax : (if p + lgA x n p i < p + j then nI (p + j) else nI (p + lgA x n p i)) = nI (p + lgA x n p (i + 1)) := hmax
            dsimp only
            rw [hmax]
            exact (if_neg (show ¬(j = lln (12 + 2 * i)) by omega)).symm
      have hlg' := (lgA_n (x := x) hpn (i + 1)).2
      have hsub : stw (i + 1) - stw i = lln (12 + 2 * i) := by omega
      have hst5 : stw (i + 1) < 64 := by omega
      have hent : RF 327 9 [.ref 241, .int (nI (p + lgA x n p i)), .int (-nI 1), .int (nI i), v, w] [] (wI h f) = RF 327 36 [.ref 241, .int (nI (p + lgA x n p i)), .int (-nI 1), .int (nI i), .int (nI (lln (12 + 2 * i))), .int (nI 0)] [] (wI h f) := by
        rw [e327_9]
        simp (disch := omega) only [S.f, hi, h1, h2, hsub, cond_true, cond_false, bI_ok, bI_er, bV_ok, bV_er, bR_ok, bR_er, bD_ok, bD_er, bF_ok, bF_er, thr_ap, cl_nI, lt_nI, le_nI, eq_nI, m1_lt, nI_m1, m1_nI, nI_lt_m1, add_nI, sub_nI, addm_nI, z_addm, z_subm, mul_nI, fit1_0, fit1_1, fit2_n, HI_wI, HK_wI, HL_wI, HR_wI, ckK_wI, chI_wI, sI_wI, wI_wI, lz0, lz1, lz2, lz3, lz4, lz5, lz6, lz7, lz8, lz9, lz10, lz12, lz13, lz16, lz17, lz20, lz21, lz23, lz26, lz30, lz32, lz35, lz40, lz45, lz48, lz57, lz58, lz59, lz60, lz61, lz63, lz64, lz97, lz99, lz100, lz110, lz111, lz126, lz129, lz132, lz133, lz166, lz169, lz255, lz999, lz1183, lz1800, Nat.reduceAdd, Nat.reduceLT, Nat.reduceEqDiff, Nat.not_lt_zero, Nat.lt_irrefl, ↓reduceIte, Nat.zero_add, Nat.add_zero, ne_eq, not_true_eq_false, not_false_eq_true, reduceCtorEq]
      rw [hent, hin]
      by_cases q : cmm x n p (12 + 2 * i) = lln (12 + 2 * i)
      · rw [if_pos q]
        have hkw : kwA x n p = some i := fst_some.mpr ⟨hi, decide_eq_true q, fun j hj => decide_eq_false (hno j hj)⟩
        refine ⟨fun y hy => ?_, fun hy => (by rw [hkw] at hy; cases hy)⟩
        rw [hkw] at hy
        cases hy
        rw [e327_9]
        by_cases q7 : i + 1 < 7
        · simp (disch := omega) only [S.f, q7, hw, uu_self _ _ _ hw, h1, h2, hsub, hp, cond_true, cond_false, bI_ok, bI_er, bV_ok, bV_er, bR_ok, bR_er, bD_ok, bD_er, bF_ok, bF_er, thr_ap, cl_nI, lt_nI, le_nI, eq_nI, m1_lt, nI_m1, m1_nI, nI_lt_m1, add_nI, sub_nI, addm_nI, z_addm, z_subm, mul_nI, fit1_0, fit1_1, fit2_n, HI_wI, HK_wI, HL_wI, HR_wI, ckK_wI, chI_wI, sI_wI, wI_wI, lz0, lz1, lz2, lz3, lz4, lz5, lz6, lz7, lz8, lz9, lz10, lz12, lz13, lz16, lz17, lz20, lz21, lz23, lz26, lz30, lz32, lz35, lz40, lz45, lz48, lz57, lz58, lz59, lz60, lz61, lz63, lz64, lz97, lz99, lz100, lz110, lz111, lz126, lz129, lz132, lz133, lz166, lz169, lz255, lz999, lz1183, lz1800, Nat.reduceAdd, Nat.reduceLT, Nat.reduceEqDiff, Nat.not_lt_zero, Nat.lt_irrefl, ↓reduceIte, Nat.zero_add, Nat.add_zero, ne_eq, not_true_eq_false, not_false_eq_true, reduceCtorEq]
        · simp (disch := omega) only [S.f, q7, hw, uu_self _ _ _ hw, h1, h2, hsub, hp, cond_true, cond_false, bI_ok, bI_er, bV_ok, bV_er, bR_ok, bR_er, bD_ok, bD_er, bF_ok, bF_er, thr_ap, cl_nI, lt_nI, le_nI, eq_nI, m1_lt, nI_m1, m1_nI, nI_lt_m1, add_nI, sub_nI, addm_nI, z_addm, z_subm, mul_nI, fit1_0, fit1_1, fit2_n, HI_wI, HK_wI, HL_wI, HR_wI, ckK_wI, chI_wI, sI_wI, wI_wI, lz0, lz1, lz2, lz3, lz4, lz5, lz6, lz7, lz8, lz9, lz10, lz12, lz13, lz16, lz17, lz20, lz21, lz23, lz26, lz30, lz32, lz35, lz40, lz45, lz48, lz57, lz58, lz59, lz60, lz61, lz63, lz64, lz97, lz99, lz100, lz110, lz111, lz126, lz129, lz132, lz133, lz166, lz169, lz255, lz999, lz1183, lz1800, Nat.reduceAdd, Nat.reduceLT, Nat.reduceEqDiff, Nat.not_lt_zero, Nat.lt_irrefl, ↓reduceIte, Nat.zero_add, Nat.add_zero, ne_eq, not_true_eq_false, not_false_eq_true, reduceCtorEq]
      · rw [if_neg q]
        exact ih (i + 1) _ _ (by omega) (fun j hj => by
          by_cases z : j = i
          · rw [z]
            exact q
          · exact hno j (by omega))
  obtain ⟨k1, k2⟩ := key 7 0 .null .null (by omega) (fun j hj => absurd hj (Nat.not_lt_zero j))
  have e : CL 327 [.ref 241] (wI h f) = RF 327 9 [.ref 241, .int (nI (p + lgA x n p 0)), .int (-nI 1), .int (nI 0), .null, .null] [] (wI h f) := by
    rw [e327]
    simp (disch := omega) only [S.f, hp, lgA, cond_true, cond_false, bI_ok, bI_er, bV_ok, bV_er, bR_ok, bR_er, bD_ok, bD_er, bF_ok, bF_er, thr_ap, cl_nI, lt_nI, le_nI, eq_nI, m1_lt, nI_m1, m1_nI, nI_lt_m1, add_nI, sub_nI, addm_nI, z_addm, z_subm, mul_nI, fit1_0, fit1_1, fit2_n, HI_wI, HK_wI, HL_wI, HR_wI, ckK_wI, chI_wI, sI_wI, wI_wI, lz0, lz1, lz2, lz3, lz4, lz5, lz6, lz7, lz8, lz9, lz10, lz12, lz13, lz16, lz17, lz20, lz21, lz23, lz26, lz30, lz32, lz35, lz40, lz45, lz48, lz57, lz58, lz59, lz60, lz61, lz63, lz64, lz97, lz99, lz100, lz110, lz111, lz126, lz129, lz132, lz133, lz166, lz169, lz255, lz999, lz1183, lz1800, Nat.reduceAdd, Nat.reduceLT, Nat.reduceEqDiff, Nat.not_lt_zero, Nat.lt_irrefl, ↓reduceIte, Nat.zero_add, Nat.add_zero, ne_eq, not_true_eq_false, not_false_eq_true, reduceCtorEq]
  rw [e]
  exact ⟨k1, k2⟩
end RM2
