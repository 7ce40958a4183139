/-! THE TABLE CHANGED -/
/-- f' is f but at the cells from lo to hi -/
def Fr (lo hi : Nat) (f f' : Nat → Nat → Int32) : Prop := ∀ a k, (a < lo ∨ hi ≤ a) → f' a k = f a k
theorem Fr.rf {lo hi : Nat} {f : Nat → Nat → Int32} : Fr lo hi f f := fun _ _ _ => rfl
theorem Fr.tr {lo hi : Nat} {f g k : Nat → Nat → Int32} (h1 : Fr lo hi f g) (h2 : Fr lo hi g k) : Fr lo hi f k := fun a j h => (h2 a j h).trans (h1 a j h)
theorem Fr.wd {lo hi lo' hi' : Nat} {f g : Nat → Nat → Int32} (h : Fr lo hi f g) (h1 : lo' ≤ lo) (h2 : hi ≤ hi') : Fr lo' hi' f g := fun a j h3 => h a j (by omega)
theorem Fr.u2 {lo hi a k : Nat} {f g : Nat → Nat → Int32} {v : Int32} (h : Fr lo hi f g) (h1 : lo ≤ a) (h2 : a < hi) : Fr lo hi f (u2 g a k v) := fun a' j h3 => (w2_ne (by omega)).trans (h a' j h3)
def tc (t a : Nat) : Bool := decide (a = t + 1) || (decide (t + 3 ≤ a) && decide (a < t + 6)) || (decide (t + 7 ≤ a) && decide (a < t + 10))
/-- row i copied to row j, of the first n sources -/
def cpF (f : Nat → Nat → Int32) (t i j n : Nat) : Nat → Nat → Int32 := fun a x => if x = j ∧ (a = t + 1 ∨ (t + 3 ≤ a ∧ a < t + 3 + n) ∨ (t + 7 ≤ a ∧ a < t + 7 + n)) then f a i else f a x
section TM
variable {h : Hp} {t : Nat}
theorem TbS.wI (S : TbS h t) (f : Nat → Nat → Int32) : TbS (wI h f) t := S
theorem copyRow_ok (S : TbS h t) {i j : Nat} (hi : i < 30) (hj : j < 30) : CL 43 [.ref t, .int (nI i), .int (nI j)] h = some (.ok .null, wI h (cpF (HI h) t i j 3)) := by
  rw [e43]
  have e0 : u2 (HI h) (t + 1) j (HI h (t + 1) i) = cpF (HI h) t i j 0 := by
    funext a x
    unfold u2 cpF
    grind
  simp (disch := omega) only [S.f, S.ky hi, S.ky hj, e0, cond_true, cond_false, bI_ok, bI_er, bV_ok, bV_er, bR_ok, bR_er, bD_ok, bD_er, bF_ok, bF_er, thr_ap, cl_nI, lt_nI, le_nI, eq_nI, m1_lt, nI_m1, m1_nI, nI_lt_m1, add_nI, sub_nI, addm_nI, z_addm, z_subm, mul_nI, fit1_0, fit1_1, fit2_n, HI_wI, HK_wI, HL_wI, HR_wI, ckK_wI, chI_wI, sI_wI, wI_wI, lz0, lz1, lz2, lz3, lz4, lz5, lz6, lz7, lz8, lz9, lz10, lz12, lz13, lz16, lz17, lz20, lz21, lz23, lz26, lz30, lz32, lz35, lz40, lz45, lz48, lz57, lz58, lz59, lz60, lz61, lz63, lz64, lz97, lz99, lz100, lz110, lz111, lz126, lz129, lz132, lz133, lz166, lz169, lz255, lz999, lz1183, lz1800, Nat.reduceAdd, Nat.reduceLT, Nat.reduceEqDiff, Nat.not_lt_zero, Nat.lt_irrefl, ↓reduceIte, Nat.zero_add, Nat.add_zero, ne_eq, not_true_eq_false, not_false_eq_true, reduceCtorEq]
  refine (lpUp (F := fun n => RF 43 14 [.ref t, .int (nI i), .int (nI j), .int (nI n)] [] (wI h (cpF (HI h) t i j n))) (Nat.zero_le 3) (fun s _ hs => ?_)).trans ?_
  · rw [e43_14]
    have e1 : u2 (u2 (cpF (HI h) t i j s) (t + 3 + s) j (cpF (HI h) t i j s (t + 3 + s) i)) (t + 7 + s) j (u2 (cpF (HI h) t i j s) (t + 3 + s) j (cpF (HI h) t i j s (t + 3 + s) i) (t + 7 + s) i) = cpF (HI h) t i j (s + 1) := by
      funext a x
      unfold u2 cpF
      grind
    simp (disch := omega) only [S.f, S.s hs, S.sr hs hi, S.sr hs hj, hs, e1, cond_true, cond_false, bI_ok, bI_er, bV_ok, bV_er, bR_ok, bR_er, bD_ok, bD_er, bF_ok, bF_er, thr_ap, cl_nI, lt_nI, le_nI, eq_nI, m1_lt, nI_m1, m1_nI, nI_lt_m1, add_nI, sub_nI, addm_nI, z_addm, z_subm, mul_nI, fit1_0, fit1_1, fit2_n, HI_wI, HK_wI, HL_wI, HR_wI, ckK_wI, chI_wI, sI_wI, wI_wI, lz0, lz1, lz2, lz3, lz4, lz5, lz6, lz7, lz8, lz9, lz10, lz12, lz13, lz16, lz17, lz20, lz21, lz23, lz26, lz30, lz32, lz35, lz40, lz45, lz48, lz57, lz58, lz59, lz60, lz61, lz63, lz64, lz97, lz99, lz100, lz110, lz111, lz126, lz129, lz132, lz133, lz166, lz169, lz255, lz999, lz1183, lz1800, Nat.reduceAdd, Nat.reduceLT, Nat.reduceEqDiff, Nat.not_lt_zero, Nat.lt_irrefl, ↓reduceIte, Nat.zero_add, Nat.add_zero, ne_eq, not_true_eq_false, not_false_eq_true, reduceCtorEq]
  · rw [e43_14]
    simp (disch := omega) only [cond_true, cond_false, bI_ok, bI_er, bV_ok, bV_er, bR_ok, bR_er, bD_ok, bD_er, bF_ok, bF_er, thr_ap, cl_nI, lt_nI, le_nI, eq_nI, m1_lt, nI_m1, m1_nI, nI_lt_m1, add_nI, sub_nI, addm_nI, z_addm, z_subm, mul_nI, fit1_0, fit1_1, fit2_n, HI_wI, HK_wI, HL_wI, HR_wI, ckK_wI, chI_wI, sI_wI, wI_wI, lz0, lz1, lz2, lz3, lz4, lz5, lz6, lz7, lz8, lz9, lz10, lz12, lz13, lz16, lz17, lz20, lz21, lz23, lz26, lz30, lz32, lz35, lz40, lz45, lz48, lz57, lz58, lz59, lz60, lz61, lz63, lz64, lz97, lz99, lz100, lz110, lz111, lz126, lz129, lz132, lz133, lz166, lz169, lz255, lz999, lz1183, lz1800, Nat.reduceAdd, Nat.reduceLT, Nat.reduceEqDiff, Nat.not_lt_zero, Nat.lt_irrefl, ↓reduceIte, Nat.zero_add, Nat.add_zero, ne_eq, not_true_eq_false, not_false_eq_true, reduceCtorEq]
/-- rows i .. n - 1 one place on -/
def opF (f : Nat → Nat → Int32) (t n i : Nat) : Nat → Nat → Int32 := fun a x => if i < x ∧ x ≤ n ∧ (a = t + 1 ∨ (t + 3 ≤ a ∧ a < t + 6) ∨ (t + 7 ≤ a ∧ a < t + 10)) then f a (x - 1) else f a x
/-- row p without amounts of the first n sources -/
def zrF (f : Nat → Nat → Int32) (t p n : Nat) : Nat → Nat → Int32 := fun a x => if x = p ∧ ((t + 3 ≤ a ∧ a < t + 3 + n) ∨ (t + 7 ≤ a ∧ a < t + 7 + n)) then nI 0 else f a x
def onF (f : Nat → Nat → Int32) (t p k : Nat) : Nat → Nat → Int32 := zrF (u2 (opF (u2 f t 3 (nI (tn f t + 1))) t (tn f t) p) (t + 1) p (nI k)) t p 3
theorem cp_op (g : Nat → Nat → Int32) (t n i : Nat) (hi : i < n) : cpF (opF g t n (i + 1)) t i (i + 1) 3 = opF g t n i := by
  funext a x
  unfold cpF opF
  by_cases hc : a = t + 1 ∨ (t + 3 ≤ a ∧ a < t + 6) ∨ (t + 7 ≤ a ∧ a < t + 10)
  · have hc' : a = t + 1 ∨ (t + 3 ≤ a ∧ a < t + 3 + 3) ∨ (t + 7 ≤ a ∧ a < t + 7 + 3) := by omega
    rcases Nat.lt_trichotomy x (i + 1) with h | h | h
    · rw [if_neg (by omega), if_neg (by omega), if_neg (by omega)]
    · subst h
      rw [if_pos ⟨rfl, hc'⟩, if_neg (by omega), if_pos ⟨by omega, by omega, hc⟩, Nat.add_sub_cancel]
    · by_cases hx : x ≤ n
      · rw [if_neg (by omega), if_pos ⟨by omega, hx, hc⟩, if_pos ⟨by omega, hx, hc⟩]
      · rw [if_neg (by omega), if_neg (by omega), if_neg (by omega)]
  · rw [if_neg (by omega), if_neg (by omega), if_neg (by omega)]
theorem openRow_ok (S : TbS h t) (N : TbN (HI h) t) {k p : Nat} (hk : k < 1000) (hn : tn (HI h) t < 30) (hp : p ≤ tn (HI h) t) (h1 : ∀ r, r < p → tk (HI h) t r < k) (h2 : ∀ r, p ≤ r → r < tn (HI h) t → k < tk (HI h) t r) : CL 44 [.ref t, .int (nI k)] h = some (.ok (.int (nI p)), wI h (onF (HI h) t p k)) := by
  rw [e44]
  have e0 : u2 (HI h) t 3 (nI (tn (HI h) t + 1)) = opF (u2 (HI h) t 3 (nI (tn (HI h) t + 1))) t (tn (HI h) t) (tn (HI h) t) := by
    funext a x
    unfold opF
    grind
  have hkey : ∀ i r, r ≤ i → r < 30 → opF (u2 (HI h) t 3 (nI (tn (HI h) t + 1))) t (tn (HI h) t) i (t + 1) r = nI (tk (HI h) t r) := fun i r h3 h4 => by
    rw [← N.k h4]
    unfold opF u2
    grind
  have hS := fun g : Nat → Nat → Int32 => S.wI g
  simp (disch := omega) only [S.f, N.n, hn, cond_true, cond_false, bI_ok, bI_er, bV_ok, bV_er, bR_ok, bR_er, bD_ok, bD_er, bF_ok, bF_er, thr_ap, cl_nI, lt_nI, le_nI, eq_nI, m1_lt, nI_m1, m1_nI, nI_lt_m1, add_nI, sub_nI, addm_nI, z_addm, z_subm, mul_nI, fit1_0, fit1_1, fit2_n, HI_wI, HK_wI, HL_wI, HR_wI, ckK_wI, chI_wI, sI_wI, wI_wI, lz0, lz1, lz2, lz3, lz4, lz5, lz6, lz7, lz8, lz9, lz10, lz12, lz13, lz16, lz17, lz20, lz21, lz23, lz26, lz30, lz32, lz35, lz40, lz45, lz48, lz57, lz58, lz59, lz60, lz61, lz63, lz64, lz97, lz99, lz100, lz110, lz111, lz126, lz129, lz132, lz133, lz166, lz169, lz255, lz999, lz1183, lz1800, Nat.reduceAdd, Nat.reduceLT, Nat.reduceEqDiff, Nat.not_lt_zero, Nat.lt_irrefl, ↓reduceIte, Nat.zero_add, Nat.add_zero, ne_eq, not_true_eq_false, not_false_eq_true, reduceCtorEq]
  rw [e0]
  refine (lpDn (F := fun i => RF 44 26 [.ref t, .int (nI k), .int (nI i), .null] [] (wI h (opF (u2 (HI h) t 3 (nI (tn (HI h) t + 1))) t (tn (HI h) t) i))) hp (fun i h3 h4 => ?_)).trans ?_
  · rw [e44_26]
    have hk9 := N.k9 (r := i) (by omega)
    have h5 := h2 i h3 h4
    have hc := copyRow_ok (S.wI (opF (u2 (HI h) t 3 (nI (tn (HI h) t + 1))) t (tn (HI h) t) (i + 1))) (i := i) (j := i + 1) (by omega) (by omega)
    have e1 : cpF (opF (u2 (HI h) t 3 (nI (tn (HI h) t + 1))) t (tn (HI h) t) (i + 1)) t i (i + 1) 3 = opF (u2 (HI h) t 3 (nI (tn (HI h) t + 1))) t (tn (HI h) t) i := cp_op _ t _ i h4
    rw [HI_wI, e1] at hc
    simp (disch := omega) only [S.f, S.ky (show i < 30 by omega), hkey (i + 1) i (by omega) (by omega), h5, hc, Nat.zero_lt_succ, Nat.add_sub_cancel, cond_true, cond_false, bI_ok, bI_er, bV_ok, bV_er, bR_ok, bR_er, bD_ok, bD_er, bF_ok, bF_er, thr_ap, cl_nI, lt_nI, le_nI, eq_nI, m1_lt, nI_m1, m1_nI, nI_lt_m1, add_nI, sub_nI, addm_nI, z_addm, z_subm, mul_nI, fit1_0, fit1_1, fit2_n, HI_wI, HK_wI, HL_wI, HR_wI, ckK_wI, chI_wI, sI_wI, wI_wI, lz0, lz1, lz2, lz3, lz4, lz5, lz6, lz7, lz8, lz9, lz10, lz12, lz13, lz16, lz17, lz20, lz21, lz23, lz26, lz30, lz32, lz35, lz40, lz45, lz48, lz57, lz58, lz59, lz60, lz61, lz63, lz64, lz97, lz99, lz100, lz110, lz111, lz126, lz129, lz132, lz133, lz166, lz169, lz255, lz999, lz1183, lz1800, Nat.reduceAdd, Nat.reduceLT, Nat.reduceEqDiff, Nat.not_lt_zero, Nat.lt_irrefl, ↓reduceIte, Nat.zero_add, Nat.add_zero, ne_eq, not_true_eq_false, not_false_eq_true, reduceCtorEq]
  · have hz : ∀ g : Nat → Nat → Int32, RF 44 65 [.ref t, .int (nI k), .int (nI p), .int (nI 0)] [] (wI h g) = some (.ok (.int (nI p)), wI h (zrF g t p 3)) := by
      intro g
      have e2 : g = zrF g t p 0 := by
        funext a x
        unfold zrF
        grind
      refine (congrArg (fun q => RF 44 65 [.ref t, .int (nI k), .int (nI p), .int (nI 0)] [] (wI h q)) e2).trans ?_
      refine (lpUp (F := fun n => RF 44 65 [.ref t, .int (nI k), .int (nI p), .int (nI n)] [] (wI h (zrF g t p n))) (Nat.zero_le 3) (fun s _ hs => ?_)).trans ?_
      · rw [e44_65]
        have e3 : u2 (u2 (zrF g t p s) (t + 3 + s) p (nI 0)) (t + 7 + s) p (nI 0) = zrF g t p (s + 1) := by
          funext a x
          unfold u2 zrF
          grind
        simp (disch := omega) only [S.f, S.s hs, S.sr hs (show p < 30 by omega), hs, e3, cond_true, cond_false, bI_ok, bI_er, bV_ok, bV_er, bR_ok, bR_er, bD_ok, bD_er, bF_ok, bF_er, thr_ap, cl_nI, lt_nI, le_nI, eq_nI, m1_lt, nI_m1, m1_nI, nI_lt_m1, add_nI, sub_nI, addm_nI, z_addm, z_subm, mul_nI, fit1_0, fit1_1, fit2_n, HI_wI, HK_wI, HL_wI, HR_wI, ckK_wI, chI_wI, sI_wI, wI_wI, lz0, lz1, lz2, lz3, lz4, lz5, lz6, lz7, lz8, lz9, lz10, lz12, lz13, lz16, lz17, lz20, lz21, lz23, lz26, lz30, lz32, lz35, lz40, lz45, lz48, lz57, lz58, lz59, lz60, lz61, lz63, lz64, lz97, lz99, lz100, lz110, lz111, lz126, lz129, lz132, lz133, lz166, lz169, lz255, lz999, lz1183, lz1800, Nat.reduceAdd, Nat.reduceLT, Nat.reduceEqDiff, Nat.not_lt_zero, Nat.lt_irrefl, ↓reduceIte, Nat.zero_add, Nat.add_zero, ne_eq, not_true_eq_false, not_false_eq_true, reduceCtorEq]
      · rw [e44_65]
        simp (disch := omega) only [cond_true, cond_false, bI_ok, bI_er, bV_ok, bV_er, bR_ok, bR_er, bD_ok, bD_er, bF_ok, bF_er, thr_ap, cl_nI, lt_nI, le_nI, eq_nI, m1_lt, nI_m1, m1_nI, nI_lt_m1, add_nI, sub_nI, addm_nI, z_addm, z_subm, mul_nI, fit1_0, fit1_1, fit2_n, HI_wI, HK_wI, HL_wI, HR_wI, ckK_wI, chI_wI, sI_wI, wI_wI, lz0, lz1, lz2, lz3, lz4, lz5, lz6, lz7, lz8, lz9, lz10, lz12, lz13, lz16, lz17, lz20, lz21, lz23, lz26, lz30, lz32, lz35, lz40, lz45, lz48, lz57, lz58, lz59, lz60, lz61, lz63, lz64, lz97, lz99, lz100, lz110, lz111, lz126, lz129, lz132, lz133, lz166, lz169, lz255, lz999, lz1183, lz1800, Nat.reduceAdd, Nat.reduceLT, Nat.reduceEqDiff, Nat.not_lt_zero, Nat.lt_irrefl, ↓reduceIte, Nat.zero_add, Nat.add_zero, ne_eq, not_true_eq_false, not_false_eq_true, reduceCtorEq]
    rw [e44_26]
    by_cases hp0 : p = 0
    · subst hp0
      simp (disch := omega) only [S.f, S.ky (show 0 < 30 by omega), hz, onF, cond_true, cond_false, bI_ok, bI_er, bV_ok, bV_er, bR_ok, bR_er, bD_ok, bD_er, bF_ok, bF_er, thr_ap, cl_nI, lt_nI, le_nI, eq_nI, m1_lt, nI_m1, m1_nI, nI_lt_m1, add_nI, sub_nI, addm_nI, z_addm, z_subm, mul_nI, fit1_0, fit1_1, fit2_n, HI_wI, HK_wI, HL_wI, HR_wI, ckK_wI, chI_wI, sI_wI, wI_wI, lz0, lz1, lz2, lz3, lz4, lz5, lz6, lz7, lz8, lz9, lz10, lz12, lz13, lz16, lz17, lz20, lz21, lz23, lz26, lz30, lz32, lz35, lz40, lz45, lz48, lz57, lz58, lz59, lz60, lz61, lz63, lz64, lz97, lz99, lz100, lz110, lz111, lz126, lz129, lz132, lz133, lz166, lz169, lz255, lz999, lz1183, lz1800, Nat.reduceAdd, Nat.reduceLT, Nat.reduceEqDiff, Nat.not_lt_zero, Nat.lt_irrefl, ↓reduceIte, Nat.zero_add, Nat.add_zero, ne_eq, not_true_eq_false, not_false_eq_true, reduceCtorEq]
    · have hk9 := N.k9 (r := p - 1) (by omega)
      have h5 := h1 (p - 1) (by omega)
      have h6 : ¬(k < tk (HI h) t (p - 1)) := by omega
      have h7 : 0 < p := by omega
      simp (disch := omega) only [S.f, S.ky (show p - 1 < 30 by omega), S.ky (show p < 30 by omega), hkey p (p - 1) (by omega) (by omega), h6, h7, hz, onF, cond_true, cond_false, bI_ok, bI_er, bV_ok, bV_er, bR_ok, bR_er, bD_ok, bD_er, bF_ok, bF_er, thr_ap, cl_nI, lt_nI, le_nI, eq_nI, m1_lt, nI_m1, m1_nI, nI_lt_m1, add_nI, sub_nI, addm_nI, z_addm, z_subm, mul_nI, fit1_0, fit1_1, fit2_n, HI_wI, HK_wI, HL_wI, HR_wI, ckK_wI, chI_wI, sI_wI, wI_wI, lz0, lz1, lz2, lz3, lz4, lz5, lz6, lz7, lz8, lz9, lz10, lz12, lz13, lz16, lz17, lz20, lz21, lz23, lz26, lz30, lz32, lz35, lz40, lz45, lz48, lz57, lz58, lz59, lz60, lz61, lz63, lz64, lz97, lz99, lz100, lz110, lz111, lz126, lz129, lz132, lz133, lz166, lz169, lz255, lz999, lz1183, lz1800, Nat.reduceAdd, Nat.reduceLT, Nat.reduceEqDiff, Nat.not_lt_zero, Nat.lt_irrefl, ↓reduceIte, Nat.zero_add, Nat.add_zero, ne_eq, not_true_eq_false, not_false_eq_true, reduceCtorEq]
end TM
