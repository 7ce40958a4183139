/-! THE CLASS: a program read -/
def CmC (f : Nat → Nat → Int32) (i : Nat) (c : Cm) : Prop := f 223 i = nI c.1 ∧ f 224 i = nI (97 + c.2.1) ∧ f 225 i = nI c.2.2.1 ∧ f 226 i = nI c.2.2.2
def FPi (i : Nat) (f f' : Nat → Nat → Int32) : Prop := ∀ a y, ¬(a = 221 ∧ y = 7) → ¬((a = 223 ∨ a = 224 ∨ a = 225 ∨ a = 226) ∧ y = i) → f' a y = f a y
theorem F7.i {f f' : Nat → Nat → Int32} (H : F7 f f') (i : Nat) : FPi i f f' := fun a y h1 _ => H a y h1
theorem FPi.trans {i : Nat} {f g k : Nat → Nat → Int32} (H : FPi i f g) (K : FPi i g k) : FPi i f k := fun a y h1 h2 => (K a y h1 h2).trans (H a y h1 h2)
section PG
variable {h : Hp} {x : Nat → Nat} {n : Nat}
theorem TX.fi {f f' : Nat → Nat → Int32} (T : TX f x n) {i : Nat} (H : FPi i f f') : TX f' x n := ⟨(H 221 1 (by omega) (by omega)).trans T.1, T.2.1, fun i hi => by rw [H 222 i (by omega) (by omega)]; exact T.2.2 i hi⟩
theorem readSource_ok (S : PgS h) {f : Nat → Nat → Int32} (T : TX f x n) {p i : Nat} (hi : i < 60) (hp : f 221 7 = nI p) (hpn : p ≤ n) : CL 167 [.ref 221, .int (nI i)] (wI h f) = if p < n ∧ 97 ≤ x p ∧ x p ≤ 99 then some (.ok (.int (nI 1)), wI h (u2 (u2 f 224 i (nI (x p))) 221 7 (nI (p + 1)))) else some (.ok (.int (nI 0)), wI h f) := by
  obtain ⟨t1, t2, t3⟩ := T
  rw [e167]
  by_cases q1 : p < n
  · obtain ⟨y1, y2, y3⟩ := t3 p q1
    by_cases q2 : 97 ≤ x p ∧ x p ≤ 99
    · have hx := indexOf_t (h := wI h f) (s := x p - 97) (by omega)
      rw [show 97 + (x p - 97) = x p by omega] at hx
      rw [if_pos (show p < n ∧ 97 ≤ x p ∧ x p ≤ 99 from ⟨q1, q2⟩)]
      simp (disch := omega) only [S.f, S.c (show p < 60 by omega), S.c hi, Bool.and_true, hp, t1, q1, y1, hx, neg_nI, w2_ne, cond_true, cond_false, bI_ok, bI_er, bV_ok, bV_er, bR_ok, bR_er, bD_ok, bD_er, bF_ok, bF_er, thr_ap, cl_nI, lt_nI, le_nI, eq_nI, m1_lt, nI_m1, m1_nI, nI_lt_m1, add_nI, sub_nI, addm_nI, z_addm, z_subm, mul_nI, fit1_0, fit1_1, fit2_n, HI_wI, HK_wI, HL_wI, HR_wI, ckK_wI, chI_wI, sI_wI, wI_wI, lz0, lz1, lz2, lz3, lz4, lz5, lz6, lz7, lz8, lz9, lz10, lz12, lz13, lz16, lz17, lz20, lz21, lz23, lz26, lz30, lz32, lz35, lz40, lz45, lz48, lz57, lz58, lz59, lz60, lz61, lz63, lz64, lz97, lz99, lz100, lz110, lz111, lz126, lz129, lz132, lz133, lz166, lz169, lz255, lz999, lz1183, lz1800, Nat.reduceAdd, Nat.reduceLT, Nat.reduceEqDiff, Nat.not_lt_zero, Nat.lt_irrefl, ↓reduceIte, Nat.zero_add, Nat.add_zero, ne_eq, not_true_eq_false, not_false_eq_true, reduceCtorEq]
    · have hx := indexOf_f (h := wI h f) (x := nI (x p)) (by
        cases hq : inr 97 99 (nI (x p)) with
        | false => rfl
        | true =>
          obtain ⟨j, j1, j2, j3⟩ := inr_t (by decide) (by decide) hq
          rw [eq_nI (by omega) (by omega)] at j3
          exact absurd ⟨by omega, by omega⟩ q2)
      rw [if_neg (show ¬(p < n ∧ 97 ≤ x p ∧ x p ≤ 99) from fun z => q2 z.2)]
      simp (disch := omega) only [S.f, S.c (show p < 60 by omega), hp, t1, q1, y1, hx, m1_lt0, cond_true, cond_false, bI_ok, bI_er, bV_ok, bV_er, bR_ok, bR_er, bD_ok, bD_er, bF_ok, bF_er, thr_ap, cl_nI, lt_nI, le_nI, eq_nI, m1_lt, nI_m1, m1_nI, nI_lt_m1, add_nI, sub_nI, addm_nI, z_addm, z_subm, mul_nI, fit1_0, fit1_1, fit2_n, HI_wI, HK_wI, HL_wI, HR_wI, ckK_wI, chI_wI, sI_wI, wI_wI, lz0, lz1, lz2, lz3, lz4, lz5, lz6, lz7, lz8, lz9, lz10, lz12, lz13, lz16, lz17, lz20, lz21, lz23, lz26, lz30, lz32, lz35, lz40, lz45, lz48, lz57, lz58, lz59, lz60, lz61, lz63, lz64, lz97, lz99, lz100, lz110, lz111, lz126, lz129, lz132, lz133, lz166, lz169, lz255, lz999, lz1183, lz1800, Nat.reduceAdd, Nat.reduceLT, Nat.reduceEqDiff, Nat.not_lt_zero, Nat.lt_irrefl, ↓reduceIte, Nat.zero_add, Nat.add_zero, ne_eq, not_true_eq_false, not_false_eq_true, reduceCtorEq]
  · rw [if_neg (show ¬(p < n ∧ 97 ≤ x p ∧ x p ≤ 99) from fun z => q1 z.1)]
    simp (disch := omega) only [S.f, hp, t1, q1, cond_true, cond_false, bI_ok, bI_er, bV_ok, bV_er, bR_ok, bR_er, bD_ok, bD_er, bF_ok, bF_er, thr_ap, cl_nI, lt_nI, le_nI, eq_nI, m1_lt, nI_m1, m1_nI, nI_lt_m1, add_nI, sub_nI, addm_nI, z_addm, z_subm, mul_nI, fit1_0, fit1_1, fit2_n, HI_wI, HK_wI, HL_wI, HR_wI, ckK_wI, chI_wI, sI_wI, wI_wI, lz0, lz1, lz2, lz3, lz4, lz5, lz6, lz7, lz8, lz9, lz10, lz12, lz13, lz16, lz17, lz20, lz21, lz23, lz26, lz30, lz32, lz35, lz40, lz45, lz48, lz57, lz58, lz59, lz60, lz61, lz63, lz64, lz97, lz99, lz100, lz110, lz111, lz126, lz129, lz132, lz133, lz166, lz169, lz255, lz999, lz1183, lz1800, Nat.reduceAdd, Nat.reduceLT, Nat.reduceEqDiff, Nat.not_lt_zero, Nat.lt_irrefl, ↓reduceIte, Nat.zero_add, Nat.add_zero, ne_eq, not_true_eq_false, not_false_eq_true, reduceCtorEq]
theorem readKey_ok (S : PgS h) {f : Nat → Nat → Int32} (T : TX f x n) {p i : Nat} (hi : i < 60) (hp : f 221 7 = nI p) (hpn : p ≤ n) : match numA' x n 3 p with
    | some r => ∃ f', CL 169 [.ref 221, .int (nI i)] (wI h f) = some (.ok (.int (nI 1)), wI h f') ∧ f' 221 7 = nI r.2 ∧ f' 225 i = nI r.1 ∧ ∀ a y, ¬(a = 221 ∧ y = 7) → ¬(a = 225 ∧ y = i) → f' a y = f a y
    | none => ∃ f', CL 169 [.ref 221, .int (nI i)] (wI h f) = some (.ok (.int (nI 0)), wI h f') ∧ f' 221 7 = nI p ∧ ∀ a y, ¬(a = 221 ∧ y = 7) → ¬(a = 225 ∧ y = i) → f' a y = f a y := by
  have hr := readNum_ok S T (most := 3) hp hpn (by decide) (by decide)
  cases hq : numA' x n 3 p with
  | none =>
    rw [hq] at hr
    dsimp only at hr ⊢
    refine ⟨u2 f 225 i (-nI 1), ?_, (w2_ne (by omega)).trans hp, fun a y h1 h2 => w2_ne h2⟩
    rw [e169]
    simp (disch := omega) only [S.f, S.c hi, hr, w2_eq, m1_lt0, cond_true, cond_false, bI_ok, bI_er, bV_ok, bV_er, bR_ok, bR_er, bD_ok, bD_er, bF_ok, bF_er, thr_ap, cl_nI, lt_nI, le_nI, eq_nI, m1_lt, nI_m1, m1_nI, nI_lt_m1, add_nI, sub_nI, addm_nI, z_addm, z_subm, mul_nI, fit1_0, fit1_1, fit2_n, HI_wI, HK_wI, HL_wI, HR_wI, ckK_wI, chI_wI, sI_wI, wI_wI, lz0, lz1, lz2, lz3, lz4, lz5, lz6, lz7, lz8, lz9, lz10, lz12, lz13, lz16, lz17, lz20, lz21, lz23, lz26, lz30, lz32, lz35, lz40, lz45, lz48, lz57, lz58, lz59, lz60, lz61, lz63, lz64, lz97, lz99, lz100, lz110, lz111, lz126, lz129, lz132, lz133, lz166, lz169, lz255, lz999, lz1183, lz1800, Nat.reduceAdd, Nat.reduceLT, Nat.reduceEqDiff, Nat.not_lt_zero, Nat.lt_irrefl, ↓reduceIte, Nat.zero_add, Nat.add_zero, ne_eq, not_true_eq_false, not_false_eq_true, reduceCtorEq]
  | some r =>
    rw [hq] at hr
    dsimp only at hr ⊢
    obtain ⟨g, g1, g2, g3⟩ := hr
    have hb := (numA_b (by decide) hq).1
    refine ⟨u2 g 225 i (nI r.1), ?_, (w2_ne (by omega)).trans g2, w2_eq _ _ _ _, fun a y h1 h2 => (w2_ne h2).trans (g3 a y h1)⟩
    rw [e169]
    simp (disch := omega) only [S.f, S.c hi, g1, w2_eq, neg_nI, cond_true, cond_false, bI_ok, bI_er, bV_ok, bV_er, bR_ok, bR_er, bD_ok, bD_er, bF_ok, bF_er, thr_ap, cl_nI, lt_nI, le_nI, eq_nI, m1_lt, nI_m1, m1_nI, nI_lt_m1, add_nI, sub_nI, addm_nI, z_addm, z_subm, mul_nI, fit1_0, fit1_1, fit2_n, HI_wI, HK_wI, HL_wI, HR_wI, ckK_wI, chI_wI, sI_wI, wI_wI, lz0, lz1, lz2, lz3, lz4, lz5, lz6, lz7, lz8, lz9, lz10, lz12, lz13, lz16, lz17, lz20, lz21, lz23, lz26, lz30, lz32, lz35, lz40, lz45, lz48, lz57, lz58, lz59, lz60, lz61, lz63, lz64, lz97, lz99, lz100, lz110, lz111, lz126, lz129, lz132, lz133, lz166, lz169, lz255, lz999, lz1183, lz1800, Nat.reduceAdd, Nat.reduceLT, Nat.reduceEqDiff, Nat.not_lt_zero, Nat.lt_irrefl, ↓reduceIte, Nat.zero_add, Nat.add_zero, ne_eq, not_true_eq_false, not_false_eq_true, reduceCtorEq]
theorem readAmount_ok (S : PgS h) {f : Nat → Nat → Int32} (T : TX f x n) {p i : Nat} (hi : i < 60) (hp : f 221 7 = nI p) (hpn : p ≤ n) : match numA' x n 2 p with
    | some r => ∃ f', CL 171 [.ref 221, .int (nI i)] (wI h f) = some (.ok (.int (nI 1)), wI h f') ∧ f' 221 7 = nI r.2 ∧ f' 226 i = nI r.1 ∧ ∀ a y, ¬(a = 221 ∧ y = 7) → ¬(a = 226 ∧ y = i) → f' a y = f a y
    | none => ∃ f', CL 171 [.ref 221, .int (nI i)] (wI h f) = some (.ok (.int (nI 0)), wI h f') ∧ f' 221 7 = nI p ∧ ∀ a y, ¬(a = 221 ∧ y = 7) → ¬(a = 226 ∧ y = i) → f' a y = f a y := by
  have hr := readNum_ok S T (most := 2) hp hpn (by decide) (by decide)
  cases hq : numA' x n 2 p with
  | none =>
    rw [hq] at hr
    dsimp only at hr ⊢
    refine ⟨u2 f 226 i (-nI 1), ?_, (w2_ne (by omega)).trans hp, fun a y h1 h2 => w2_ne h2⟩
    rw [e171]
    simp (disch := omega) only [S.f, S.c hi, hr, w2_eq, m1_lt0, cond_true, cond_false, bI_ok, bI_er, bV_ok, bV_er, bR_ok, bR_er, bD_ok, bD_er, bF_ok, bF_er, thr_ap, cl_nI, lt_nI, le_nI, eq_nI, m1_lt, nI_m1, m1_nI, nI_lt_m1, add_nI, sub_nI, addm_nI, z_addm, z_subm, mul_nI, fit1_0, fit1_1, fit2_n, HI_wI, HK_wI, HL_wI, HR_wI, ckK_wI, chI_wI, sI_wI, wI_wI, lz0, lz1, lz2, lz3, lz4, lz5, lz6, lz7, lz8, lz9, lz10, lz12, lz13, lz16, lz17, lz20, lz21, lz23, lz26, lz30, lz32, lz35, lz40, lz45, lz48, lz57, lz58, lz59, lz60, lz61, lz63, lz64, lz97, lz99, lz100, lz110, lz111, lz126, lz129, lz132, lz133, lz166, lz169, lz255, lz999, lz1183, lz1800, Nat.reduceAdd, Nat.reduceLT, Nat.reduceEqDiff, Nat.not_lt_zero, Nat.lt_irrefl, ↓reduceIte, Nat.zero_add, Nat.add_zero, ne_eq, not_true_eq_false, not_false_eq_true, reduceCtorEq]
  | some r =>
    rw [hq] at hr
    dsimp only at hr ⊢
    obtain ⟨g, g1, g2, g3⟩ := hr
    have hb := (numA_b (by decide) hq).1
    refine ⟨u2 g 226 i (nI r.1), ?_, (w2_ne (by omega)).trans g2, w2_eq _ _ _ _, fun a y h1 h2 => (w2_ne h2).trans (g3 a y h1)⟩
    rw [e171]
    simp (disch := omega) only [S.f, S.c hi, g1, w2_eq, neg_nI, cond_true, cond_false, bI_ok, bI_er, bV_ok, bV_er, bR_ok, bR_er, bD_ok, bD_er, bF_ok, bF_er, thr_ap, cl_nI, lt_nI, le_nI, eq_nI, m1_lt, nI_m1, m1_nI, nI_lt_m1, add_nI, sub_nI, addm_nI, z_addm, z_subm, mul_nI, fit1_0, fit1_1, fit2_n, HI_wI, HK_wI, HL_wI, HR_wI, ckK_wI, chI_wI, sI_wI, wI_wI, lz0, lz1, lz2, lz3, lz4, lz5, lz6, lz7, lz8, lz9, lz10, lz12, lz13, lz16, lz17, lz20, lz21, lz23, lz26, lz30, lz32, lz35, lz40, lz45, lz48, lz57, lz58, lz59, lz60, lz61, lz63, lz64, lz97, lz99, lz100, lz110, lz111, lz126, lz129, lz132, lz133, lz166, lz169, lz255, lz999, lz1183, lz1800, Nat.reduceAdd, Nat.reduceLT, Nat.reduceEqDiff, Nat.not_lt_zero, Nat.lt_irrefl, ↓reduceIte, Nat.zero_add, Nat.add_zero, ne_eq, not_true_eq_false, not_false_eq_true, reduceCtorEq]
/-- what readCommand brings -/
def RcQ (h : Hp) (x : Nat → Nat) (n p i : Nat) (f : Nat → Nat → Int32) (res : Res) : Prop := match cmdA x n p with
  | .ok r => ∃ f', res = some (.ok (.int (nI 1)), wI h f') ∧ f' 221 7 = nI r.2 ∧ CmC f' i r.1 ∧ FPi i f f'
  | .error e => ∃ f', res = some (.ok (.int (nI 0)), wI h f') ∧ f' 221 7 = nI e ∧ FPi i f f'
theorem readSK_ok (S : PgS h) {f f0 : Nat → Nat → Int32} {w p i : Nat} (hw : w = 0 ∨ w = 1 ∨ w = 4 ∨ w = 5) (hi : i < 60) (T : TX f x n) (H : FPi i f0 f) (hk : f 223 i = nI w) (ha : f 226 i = nI 0) (hp : f 221 7 = nI p) (hpn : p ≤ n) (b : Nat) (hb : b = if w < 2 then 84 else 123) (p0 : Nat) (h0 : kwA x n p0 = some w) (h1 : p0 + lln (12 + 2 * w) = p) : RcQ h x n p0 i f0 (RF 172 b [.ref 221, .int (nI i), .int (nI w)] [] (wI h f)) := by
  have n60 := T.2.1
  have hw23 : ¬(w = 2 ∨ w = 3) := by omega
  have hw6 : ¬(w = 6) := by omega
  unfold RcQ cmdA
  rw [h0]
  dsimp only
  rw [if_neg hw23, if_neg hw6, h1]
  have hsrc := readSource_ok S T hi hp hpn
  by_cases q : p < n ∧ 97 ≤ x p ∧ x p ≤ 99
  · rw [if_pos q] at hsrc ⊢
    have H1 : FPi i f0 (u2 (u2 f 224 i (nI (x p))) 221 7 (nI (p + 1))) := fun a y z1 z2 => by
      rw [w2_ne z1, w2_ne (by omega)]
      exact H a y z1 z2
    have H1' : FPi i f (u2 (u2 f 224 i (nI (x p))) 221 7 (nI (p + 1))) := fun a y z1 z2 => by
      rw [w2_ne z1, w2_ne (by omega)]
    have T1 := T.fi H1'
    have k1 : u2 (u2 f 224 i (nI (x p))) 221 7 (nI (p + 1)) 223 i = nI w := by rw [w2_ne (by omega), w2_ne (by omega)]; exact hk
    have s1 : u2 (u2 f 224 i (nI (x p))) 221 7 (nI (p + 1)) 224 i = nI (x p) := by rw [w2_ne (by omega), w2_eq]
    have a1 : u2 (u2 f 224 i (nI (x p))) 221 7 (nI (p + 1)) 226 i = nI 0 := by rw [w2_ne (by omega), w2_ne (by omega)]; exact ha
    have hkey := readKey_ok S T1 hi (p := p + 1) (w2_eq _ _ _ _) (by omega)
    generalize u2 (u2 f 224 i (nI (x p))) 221 7 (nI (p + 1)) = f1 at *
    cases hq3 : numA' x n 3 (p + 1) with
    | none =>
      rw [hq3] at hkey
      dsimp only at hkey ⊢
      obtain ⟨f2, k2, k3, k4⟩ := hkey
      refine ⟨f2, ?_, k3, H1.trans (fun a y z1 z2 => k4 a y z1 (by omega))⟩
      by_cases z : w < 2
      · rw [hb, if_pos z, e172_84]
        simp (disch := omega) only [S.f, hsrc, k2, Nat.succ_ne_self, cond_true, cond_false, bI_ok, bI_er, bV_ok, bV_er, bR_ok, bR_er, bD_ok, bD_er, bF_ok, bF_er, thr_ap, cl_nI, lt_nI, le_nI, eq_nI, m1_lt, nI_m1, m1_nI, nI_lt_m1, add_nI, sub_nI, addm_nI, z_addm, z_subm, mul_nI, fit1_0, fit1_1, fit2_n, HI_wI, HK_wI, HL_wI, HR_wI, ckK_wI, chI_wI, sI_wI, wI_wI, lz0, lz1, lz2, lz3, lz4, lz5, lz6, lz7, lz8, lz9, lz10, lz12, lz13, lz16, lz17, lz20, lz21, lz23, lz26, lz30, lz32, lz35, lz40, lz45, lz48, lz57, lz58, lz59, lz60, lz61, lz63, lz64, lz97, lz99, lz100, lz110, lz111, lz126, lz129, lz132, lz133, lz166, lz169, lz255, lz999, lz1183, lz1800, Nat.reduceAdd, Nat.reduceLT, Nat.reduceEqDiff, Nat.not_lt_zero, Nat.lt_irrefl, ↓reduceIte, Nat.zero_add, Nat.add_zero, ne_eq, not_true_eq_false, not_false_eq_true, reduceCtorEq]
      · rw [hb, if_neg z, e172_123]
        simp (disch := omega) only [S.f, hsrc, k2, Nat.succ_ne_self, cond_true, cond_false, bI_ok, bI_er, bV_ok, bV_er, bR_ok, bR_er, bD_ok, bD_er, bF_ok, bF_er, thr_ap, cl_nI, lt_nI, le_nI, eq_nI, m1_lt, nI_m1, m1_nI, nI_lt_m1, add_nI, sub_nI, addm_nI, z_addm, z_subm, mul_nI, fit1_0, fit1_1, fit2_n, HI_wI, HK_wI, HL_wI, HR_wI, ckK_wI, chI_wI, sI_wI, wI_wI, lz0, lz1, lz2, lz3, lz4, lz5, lz6, lz7, lz8, lz9, lz10, lz12, lz13, lz16, lz17, lz20, lz21, lz23, lz26, lz30, lz32, lz35, lz40, lz45, lz48, lz57, lz58, lz59, lz60, lz61, lz63, lz64, lz97, lz99, lz100, lz110, lz111, lz126, lz129, lz132, lz133, lz166, lz169, lz255, lz999, lz1183, lz1800, Nat.reduceAdd, Nat.reduceLT, Nat.reduceEqDiff, Nat.not_lt_zero, Nat.lt_irrefl, ↓reduceIte, Nat.zero_add, Nat.add_zero, ne_eq, not_true_eq_false, not_false_eq_true, reduceCtorEq]
    | some r =>
      rw [hq3] at hkey
      dsimp only at hkey ⊢
      obtain ⟨f2, k2, k3, k3', k4⟩ := hkey
      have hrb := numA_b (by decide) hq3
      have H2' : FPi i f1 f2 := fun a y z1 z2 => k4 a y z1 (by omega)
      have T2 := T1.fi H2'
      by_cases z : w < 2
      · rw [if_neg (by omega)]
        have hsk := skip_ok S T2 (c := 61) k3 hrb.2.2 (by decide)
        by_cases q2 : r.2 < n ∧ x r.2 = 61
        · rw [if_pos q2] at hsk ⊢
          have H3' : FPi i f2 (u2 f2 221 7 (nI (r.2 + 1))) := fun a y z1 z2 => w2_ne z1
          have T3 := T2.fi H3'
          have ham := readAmount_ok S T3 hi (p := r.2 + 1) (w2_eq _ _ _ _) (by omega)
          cases hq4 : numA' x n 2 (r.2 + 1) with
          | none =>
            rw [hq4] at ham
            dsimp only at ham ⊢
            obtain ⟨f3, m2, m3, m4⟩ := ham
            refine ⟨f3, ?_, m3, ((H1.trans H2').trans H3').trans (fun a y z1 z2 => m4 a y z1 (by omega))⟩
            rw [hb, if_pos z, e172_84]
            simp (disch := omega) only [S.f, hsrc, k2, hsk, m2, Nat.succ_ne_self, cond_true, cond_false, bI_ok, bI_er, bV_ok, bV_er, bR_ok, bR_er, bD_ok, bD_er, bF_ok, bF_er, thr_ap, cl_nI, lt_nI, le_nI, eq_nI, m1_lt, nI_m1, m1_nI, nI_lt_m1, add_nI, sub_nI, addm_nI, z_addm, z_subm, mul_nI, fit1_0, fit1_1, fit2_n, HI_wI, HK_wI, HL_wI, HR_wI, ckK_wI, chI_wI, sI_wI, wI_wI, lz0, lz1, lz2, lz3, lz4, lz5, lz6, lz7, lz8, lz9, lz10, lz12, lz13, lz16, lz17, lz20, lz21, lz23, lz26, lz30, lz32, lz35, lz40, lz45, lz48, lz57, lz58, lz59, lz60, lz61, lz63, lz64, lz97, lz99, lz100, lz110, lz111, lz126, lz129, lz132, lz133, lz166, lz169, lz255, lz999, lz1183, lz1800, Nat.reduceAdd, Nat.reduceLT, Nat.reduceEqDiff, Nat.not_lt_zero, Nat.lt_irrefl, ↓reduceIte, Nat.zero_add, Nat.add_zero, ne_eq, not_true_eq_false, not_false_eq_true, reduceCtorEq]
          | some r' =>
            rw [hq4] at ham
            dsimp only at ham ⊢
            obtain ⟨f3, m2, m3, m3', m4⟩ := ham
            refine ⟨f3, ?_, m3, ⟨?_, ?_, ?_, m3'⟩, ((H1.trans H2').trans H3').trans (fun a y z1 z2 => m4 a y z1 (by omega))⟩
            · rw [hb, if_pos z, e172_84]
              simp (disch := omega) only [S.f, hsrc, k2, hsk, m2, Nat.succ_ne_self, cond_true, cond_false, bI_ok, bI_er, bV_ok, bV_er, bR_ok, bR_er, bD_ok, bD_er, bF_ok, bF_er, thr_ap, cl_nI, lt_nI, le_nI, eq_nI, m1_lt, nI_m1, m1_nI, nI_lt_m1, add_nI, sub_nI, addm_nI, z_addm, z_subm, mul_nI, fit1_0, fit1_1, fit2_n, HI_wI, HK_wI, HL_wI, HR_wI, ckK_wI, chI_wI, sI_wI, wI_wI, lz0, lz1, lz2, lz3, lz4, lz5, lz6, lz7, lz8, lz9, lz10, lz12, lz13, lz16, lz17, lz20, lz21, lz23, lz26, lz30, lz32, lz35, lz40, lz45, lz48, lz57, lz58, lz59, lz60, lz61, lz63, lz64, lz97, lz99, lz100, lz110, lz111, lz126, lz129, lz132, lz133, lz166, lz169, lz255, lz999, lz1183, lz1800, Nat.reduceAdd, Nat.reduceLT, Nat.reduceEqDiff, Nat.not_lt_zero, Nat.lt_irrefl, ↓reduceIte, Nat.zero_add, Nat.add_zero, ne_eq, not_true_eq_false, not_false_eq_true, reduceCtorEq]
            · rw [m4 223 i (by omega) (by omega), w2_ne (by omega), k4 223 i (by omega) (by omega)]
              exact k1
            · rw [m4 224 i (by omega) (by omega), w2_ne (by omega), k4 224 i (by omega) (by omega), s1]
              congr 1
              dsimp only
              omega
            · rw [m4 225 i (by omega) (by omega), w2_ne (by omega)]
              exact k3'
        · rw [if_neg q2] at hsk ⊢
          refine ⟨f2, ?_, k3, H1.trans H2'⟩
          rw [hb, if_pos z, e172_84]
          simp (disch := omega) only [S.f, hsrc, k2, hsk, Nat.succ_ne_self, cond_true, cond_false, bI_ok, bI_er, bV_ok, bV_er, bR_ok, bR_er, bD_ok, bD_er, bF_ok, bF_er, thr_ap, cl_nI, lt_nI, le_nI, eq_nI, m1_lt, nI_m1, m1_nI, nI_lt_m1, add_nI, sub_nI, addm_nI, z_addm, z_subm, mul_nI, fit1_0, fit1_1, fit2_n, HI_wI, HK_wI, HL_wI, HR_wI, ckK_wI, chI_wI, sI_wI, wI_wI, lz0, lz1, lz2, lz3, lz4, lz5, lz6, lz7, lz8, lz9, lz10, lz12, lz13, lz16, lz17, lz20, lz21, lz23, lz26, lz30, lz32, lz35, lz40, lz45, lz48, lz57, lz58, lz59, lz60, lz61, lz63, lz64, lz97, lz99, lz100, lz110, lz111, lz126, lz129, lz132, lz133, lz166, lz169, lz255, lz999, lz1183, lz1800, Nat.reduceAdd, Nat.reduceLT, Nat.reduceEqDiff, Nat.not_lt_zero, Nat.lt_irrefl, ↓reduceIte, Nat.zero_add, Nat.add_zero, ne_eq, not_true_eq_false, not_false_eq_true, reduceCtorEq]
      · rw [if_pos (by omega)]
        refine ⟨f2, ?_, k3, ⟨?_, ?_, k3', ?_⟩, H1.trans H2'⟩
        · rw [hb, if_neg z, e172_123]
          simp (disch := omega) only [S.f, hsrc, k2, Nat.succ_ne_self, cond_true, cond_false, bI_ok, bI_er, bV_ok, bV_er, bR_ok, bR_er, bD_ok, bD_er, bF_ok, bF_er, thr_ap, cl_nI, lt_nI, le_nI, eq_nI, m1_lt, nI_m1, m1_nI, nI_lt_m1, add_nI, sub_nI, addm_nI, z_addm, z_subm, mul_nI, fit1_0, fit1_1, fit2_n, HI_wI, HK_wI, HL_wI, HR_wI, ckK_wI, chI_wI, sI_wI, wI_wI, lz0, lz1, lz2, lz3, lz4, lz5, lz6, lz7, lz8, lz9, lz10, lz12, lz13, lz16, lz17, lz20, lz21, lz23, lz26, lz30, lz32, lz35, lz40, lz45, lz48, lz57, lz58, lz59, lz60, lz61, lz63, lz64, lz97, lz99, lz100, lz110, lz111, lz126, lz129, lz132, lz133, lz166, lz169, lz255, lz999, lz1183, lz1800, Nat.reduceAdd, Nat.reduceLT, Nat.reduceEqDiff, Nat.not_lt_zero, Nat.lt_irrefl, ↓reduceIte, Nat.zero_add, Nat.add_zero, ne_eq, not_true_eq_false, not_false_eq_true, reduceCtorEq]
        · rw [k4 223 i (by omega) (by omega)]
          exact k1
        · rw [k4 224 i (by omega) (by omega), s1]
          congr 1
          dsimp only
          omega
        · rw [k4 226 i (by omega) (by omega)]
          exact a1
  · rw [if_neg q] at hsrc ⊢
    refine ⟨f, ?_, hp, H⟩
    by_cases z : w < 2
    · rw [hb, if_pos z, e172_84]
      simp (disch := omega) only [S.f, hsrc, cond_true, cond_false, bI_ok, bI_er, bV_ok, bV_er, bR_ok, bR_er, bD_ok, bD_er, bF_ok, bF_er, thr_ap, cl_nI, lt_nI, le_nI, eq_nI, m1_lt, nI_m1, m1_nI, nI_lt_m1, add_nI, sub_nI, addm_nI, z_addm, z_subm, mul_nI, fit1_0, fit1_1, fit2_n, HI_wI, HK_wI, HL_wI, HR_wI, ckK_wI, chI_wI, sI_wI, wI_wI, lz0, lz1, lz2, lz3, lz4, lz5, lz6, lz7, lz8, lz9, lz10, lz12, lz13, lz16, lz17, lz20, lz21, lz23, lz26, lz30, lz32, lz35, lz40, lz45, lz48, lz57, lz58, lz59, lz60, lz61, lz63, lz64, lz97, lz99, lz100, lz110, lz111, lz126, lz129, lz132, lz133, lz166, lz169, lz255, lz999, lz1183, lz1800, Nat.reduceAdd, Nat.reduceLT, Nat.reduceEqDiff, Nat.not_lt_zero, Nat.lt_irrefl, ↓reduceIte, Nat.zero_add, Nat.add_zero, ne_eq, not_true_eq_false, not_false_eq_true, reduceCtorEq]
    · rw [hb, if_neg z, e172_123]
      simp (disch := omega) only [S.f, hsrc, cond_true, cond_false, bI_ok, bI_er, bV_ok, bV_er, bR_ok, bR_er, bD_ok, bD_er, bF_ok, bF_er, thr_ap, cl_nI, lt_nI, le_nI, eq_nI, m1_lt, nI_m1, m1_nI, nI_lt_m1, add_nI, sub_nI, addm_nI, z_addm, z_subm, mul_nI, fit1_0, fit1_1, fit2_n, HI_wI, HK_wI, HL_wI, HR_wI, ckK_wI, chI_wI, sI_wI, wI_wI, lz0, lz1, lz2, lz3, lz4, lz5, lz6, lz7, lz8, lz9, lz10, lz12, lz13, lz16, lz17, lz20, lz21, lz23, lz26, lz30, lz32, lz35, lz40, lz45, lz48, lz57, lz58, lz59, lz60, lz61, lz63, lz64, lz97, lz99, lz100, lz110, lz111, lz126, lz129, lz132, lz133, lz166, lz169, lz255, lz999, lz1183, lz1800, Nat.reduceAdd, Nat.reduceLT, Nat.reduceEqDiff, Nat.not_lt_zero, Nat.lt_irrefl, ↓reduceIte, Nat.zero_add, Nat.add_zero, ne_eq, not_true_eq_false, not_false_eq_true, reduceCtorEq]
theorem readCommand_ok (S : PgS h) (K : KoS h) {f : Nat → Nat → Int32} (F : Ko f) (T : TX f x n) {p i : Nat} (hi : i < 60) (hp : f 221 7 = nI p) (hpn : p ≤ n) : RcQ h x n p i f (CL 172 [.ref 221, .int (nI i)] (wI h f)) := by
  have n60 := T.2.1
  have hkw := readKeyword_ok S K F T hp hpn
  cases hq : kwA x n p with
  | none =>
    rw [hq] at hkw
    dsimp only at hkw
    unfold RcQ cmdA
    rw [hq]
    dsimp only
    refine ⟨_, ?_, w2_eq _ _ _ _, fun a y z1 _ => w2_ne z1⟩
    rw [e172]
    simp (disch := omega) only [S.f, hkw, m1_lt0, cond_true, cond_false, bI_ok, bI_er, bV_ok, bV_er, bR_ok, bR_er, bD_ok, bD_er, bF_ok, bF_er, thr_ap, cl_nI, lt_nI, le_nI, eq_nI, m1_lt, nI_m1, m1_nI, nI_lt_m1, add_nI, sub_nI, addm_nI, z_addm, z_subm, mul_nI, fit1_0, fit1_1, fit2_n, HI_wI, HK_wI, HL_wI, HR_wI, ckK_wI, chI_wI, sI_wI, wI_wI, lz0, lz1, lz2, lz3, lz4, lz5, lz6, lz7, lz8, lz9, lz10, lz12, lz13, lz16, lz17, lz20, lz21, lz23, lz26, lz30, lz32, lz35, lz40, lz45, lz48, lz57, lz58, lz59, lz60, lz61, lz63, lz64, lz97, lz99, lz100, lz110, lz111, lz126, lz129, lz132, lz133, lz166, lz169, lz255, lz999, lz1183, lz1800, Nat.reduceAdd, Nat.reduceLT, Nat.reduceEqDiff, Nat.not_lt_zero, Nat.lt_irrefl, ↓reduceIte, Nat.zero_add, Nat.add_zero, ne_eq, not_true_eq_false, not_false_eq_true, reduceCtorEq]
  | some w =>
    rw [hq] at hkw
    dsimp only at hkw
    have hw := (fst_some.mp hq).1
    have hpw : p + lln (12 + 2 * w) ≤ n := by
      have h1 := of_decide_eq_true (fst_some.mp hq).2.1
      have h2 := cmm_n (x := x) (a := 12 + 2 * w) hpn
      omega
    have hst : CL 172 [.ref 221, .int (nI i)] (wI h f) = RF 172 41 [.ref 221, .int (nI i), .int (nI w)] [.int (nI w)] (wI h (u2 (u2 (u2 (u2 (u2 f 221 7 (nI (p + lln (12 + 2 * w)))) 223 i (nI w)) 224 i (nI 97)) 225 i (nI 0)) 226 i (nI 0))) := by
      rw [e172]
      simp (disch := omega) only [S.f, S.c hi, Bool.and_true, hkw, neg_nI, cond_true, cond_false, bI_ok, bI_er, bV_ok, bV_er, bR_ok, bR_er, bD_ok, bD_er, bF_ok, bF_er, thr_ap, cl_nI, lt_nI, le_nI, eq_nI, m1_lt, nI_m1, m1_nI, nI_lt_m1, add_nI, sub_nI, addm_nI, z_addm, z_subm, mul_nI, fit1_0, fit1_1, fit2_n, HI_wI, HK_wI, HL_wI, HR_wI, ckK_wI, chI_wI, sI_wI, wI_wI, lz0, lz1, lz2, lz3, lz4, lz5, lz6, lz7, lz8, lz9, lz10, lz12, lz13, lz16, lz17, lz20, lz21, lz23, lz26, lz30, lz32, lz35, lz40, lz45, lz48, lz57, lz58, lz59, lz60, lz61, lz63, lz64, lz97, lz99, lz100, lz110, lz111, lz126, lz129, lz132, lz133, lz166, lz169, lz255, lz999, lz1183, lz1800, Nat.reduceAdd, Nat.reduceLT, Nat.reduceEqDiff, Nat.not_lt_zero, Nat.lt_irrefl, ↓reduceIte, Nat.zero_add, Nat.add_zero, ne_eq, not_true_eq_false, not_false_eq_true, reduceCtorEq]
    rw [hst]
    have H : FPi i f (u2 (u2 (u2 (u2 (u2 f 221 7 (nI (p + lln (12 + 2 * w)))) 223 i (nI w)) 224 i (nI 97)) 225 i (nI 0)) 226 i (nI 0)) := fun a y z1 z2 => by
      rw [w2_ne (by omega), w2_ne (by omega), w2_ne (by omega), w2_ne (by omega), w2_ne (by omega)]
    have T1 := T.fi H
    have g7 : u2 (u2 (u2 (u2 (u2 f 221 7 (nI (p + lln (12 + 2 * w)))) 223 i (nI w)) 224 i (nI 97)) 225 i (nI 0)) 226 i (nI 0) 221 7 = nI (p + lln (12 + 2 * w)) := by
      rw [w2_ne (by omega), w2_ne (by omega), w2_ne (by omega), w2_ne (by omega), w2_eq]
    have c1 : CmC (u2 (u2 (u2 (u2 (u2 f 221 7 (nI (p + lln (12 + 2 * w)))) 223 i (nI w)) 224 i (nI 97)) 225 i (nI 0)) 226 i (nI 0)) i (w, 0, 0, 0) := by
      refine ⟨?_, ?_, ?_, w2_eq _ _ _ _⟩
      · rw [w2_ne (by omega), w2_ne (by omega), w2_ne (by omega), w2_eq]
      · rw [w2_ne (by omega), w2_ne (by omega), w2_eq]
        rfl
      · rw [w2_ne (by omega), w2_eq]
    generalize u2 (u2 (u2 (u2 (u2 f 221 7 (nI (p + lln (12 + 2 * w)))) 223 i (nI w)) 224 i (nI 97)) 225 i (nI 0)) 226 i (nI 0) = f1 at *
    have hw' : w = 0 ∨ w = 1 ∨ w = 2 ∨ w = 3 ∨ w = 4 ∨ w = 5 ∨ w = 6 := by omega
    rcases hw' with rfl | rfl | rfl | rfl | rfl | rfl | rfl
    · refine (congrArg (RcQ h x n p i f) ((e172_41 ..).trans rfl : _ = RF 172 84 [.ref 221, .int (nI i), .int (nI 0)] [] (wI h f1))).mpr ?_
      exact readSK_ok S (.inl rfl) hi T1 H c1.1 c1.2.2.2 g7 hpw 84 rfl p hq rfl
    · refine (congrArg (RcQ h x n p i f) ((e172_41 ..).trans rfl : _ = RF 172 84 [.ref 221, .int (nI i), .int (nI 1)] [] (wI h f1))).mpr ?_
      exact readSK_ok S (.inr (.inl rfl)) hi T1 H c1.1 c1.2.2.2 g7 hpw 84 rfl p hq rfl
    · refine (congrArg (RcQ h x n p i f) ((e172_41 ..).trans rfl : _ = RF 172 151 [.ref 221, .int (nI i), .int (nI 2)] [] (wI h f1))).mpr ?_
      unfold RcQ cmdA
      rw [hq]
      dsimp only
      rw [if_pos (.inl rfl)]
      refine ⟨f1, ?_, g7, c1, H⟩
      rw [e172_151]
      rfl
    · refine (congrArg (RcQ h x n p i f) ((e172_41 ..).trans rfl : _ = RF 172 151 [.ref 221, .int (nI i), .int (nI 3)] [] (wI h f1))).mpr ?_
      unfold RcQ cmdA
      rw [hq]
      dsimp only
      rw [if_pos (.inr rfl)]
      refine ⟨f1, ?_, g7, c1, H⟩
      rw [e172_151]
      rfl
    · refine (congrArg (RcQ h x n p i f) ((e172_41 ..).trans rfl : _ = RF 172 123 [.ref 221, .int (nI i), .int (nI 4)] [] (wI h f1))).mpr ?_
      exact readSK_ok S (.inr (.inr (.inl rfl))) hi T1 H c1.1 c1.2.2.2 g7 hpw 123 rfl p hq rfl
    · refine (congrArg (RcQ h x n p i f) ((e172_41 ..).trans rfl : _ = RF 172 123 [.ref 221, .int (nI i), .int (nI 5)] [] (wI h f1))).mpr ?_
      exact readSK_ok S (.inr (.inr (.inr rfl))) hi T1 H c1.1 c1.2.2.2 g7 hpw 123 rfl p hq rfl
    · refine (congrArg (RcQ h x n p i f) ((e172_41 ..).trans rfl : _ = RF 172 145 [.ref 221, .int (nI i), .int (nI 6)] [] (wI h f1))).mpr ?_
      have ham := readAmount_ok S T1 hi g7 hpw
      unfold RcQ cmdA
      rw [hq]
      dsimp only
      rw [if_neg (by decide), if_pos rfl]
      cases hq4 : numA' x n 2 (p + lln (12 + 2 * 6)) with
      | none =>
        rw [hq4] at ham
        dsimp only at ham ⊢
        obtain ⟨f3, m2, m3, m4⟩ := ham
        refine ⟨f3, ?_, m3, H.trans (fun a y z1 z2 => m4 a y z1 (by omega))⟩
        rw [e172_145]
        simp (disch := omega) only [S.f, m2, cond_true, cond_false, bI_ok, bI_er, bV_ok, bV_er, bR_ok, bR_er, bD_ok, bD_er, bF_ok, bF_er, thr_ap, cl_nI, lt_nI, le_nI, eq_nI, m1_lt, nI_m1, m1_nI, nI_lt_m1, add_nI, sub_nI, addm_nI, z_addm, z_subm, mul_nI, fit1_0, fit1_1, fit2_n, HI_wI, HK_wI, HL_wI, HR_wI, ckK_wI, chI_wI, sI_wI, wI_wI, lz0, lz1, lz2, lz3, lz4, lz5, lz6, lz7, lz8, lz9, lz10, lz12, lz13, lz16, lz17, lz20, lz21, lz23, lz26, lz30, lz32, lz35, lz40, lz45, lz48, lz57, lz58, lz59, lz60, lz61, lz63, lz64, lz97, lz99, lz100, lz110, lz111, lz126, lz129, lz132, lz133, lz166, lz169, lz255, lz999, lz1183, lz1800, Nat.reduceAdd, Nat.reduceLT, Nat.reduceEqDiff, Nat.not_lt_zero, Nat.lt_irrefl, ↓reduceIte, Nat.zero_add, Nat.add_zero, ne_eq, not_true_eq_false, not_false_eq_true, reduceCtorEq]
      | some r =>
        rw [hq4] at ham
        dsimp only at ham ⊢
        obtain ⟨f3, m2, m3, m3', m4⟩ := ham
        refine ⟨f3, ?_, m3, ⟨?_, ?_, ?_, m3'⟩, H.trans (fun a y z1 z2 => m4 a y z1 (by omega))⟩
        · rw [e172_145]
          simp (disch := omega) only [S.f, m2, cond_true, cond_false, bI_ok, bI_er, bV_ok, bV_er, bR_ok, bR_er, bD_ok, bD_er, bF_ok, bF_er, thr_ap, cl_nI, lt_nI, le_nI, eq_nI, m1_lt, nI_m1, m1_nI, nI_lt_m1, add_nI, sub_nI, addm_nI, z_addm, z_subm, mul_nI, fit1_0, fit1_1, fit2_n, HI_wI, HK_wI, HL_wI, HR_wI, ckK_wI, chI_wI, sI_wI, wI_wI, lz0, lz1, lz2, lz3, lz4, lz5, lz6, lz7, lz8, lz9, lz10, lz12, lz13, lz16, lz17, lz20, lz21, lz23, lz26, lz30, lz32, lz35, lz40, lz45, lz48, lz57, lz58, lz59, lz60, lz61, lz63, lz64, lz97, lz99, lz100, lz110, lz111, lz126, lz129, lz132, lz133, lz166, lz169, lz255, lz999, lz1183, lz1800, Nat.reduceAdd, Nat.reduceLT, Nat.reduceEqDiff, Nat.not_lt_zero, Nat.lt_irrefl, ↓reduceIte, Nat.zero_add, Nat.add_zero, ne_eq, not_true_eq_false, not_false_eq_true, reduceCtorEq]
        · rw [m4 223 i (by omega) (by omega)]
          exact c1.1
        · rw [m4 224 i (by omega) (by omega)]
          exact c1.2.1
        · rw [m4 225 i (by omega) (by omega)]
          exact c1.2.2.1
end PG
