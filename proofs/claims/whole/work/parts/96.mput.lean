/-! THE REFERENCE: inserting -/
def inM (f : Nat → Nat → Int32) (p i : Nat) : Nat → Nat → Int32 := fun a x => if a = 242 ∧ i ≤ x ∧ x < 133 ∧ 13 + 4 * (p + 1) ≤ x then f 242 (x - 4) else f a x
theorem inM_step (f : Nat → Nat → Int32) (p i : Nat) (h : 13 + 4 * (p + 1) ≤ i) (h2 : i < 133) : u2 (inM f p (i + 1)) 242 i (inM f p (i + 1) 242 (i - 4)) = inM f p i := by
  funext b x
  have e1 : inM f p (i + 1) 242 (i - 4) = f 242 (i - 4) := if_neg (by omega)
  rw [e1]
  unfold u2 inM
  by_cases q : b = 242 ∧ x = i
  · obtain ⟨rfl, rfl⟩ := q
    rw [if_pos ⟨rfl, rfl⟩, if_pos ⟨rfl, Nat.le_refl _, h2, h⟩]
  · rw [if_neg q]
    by_cases q2 : b = 242 ∧ i + 1 ≤ x ∧ x < 133 ∧ 13 + 4 * (p + 1) ≤ x
    · rw [if_pos q2, if_pos ⟨q2.1, by omega, q2.2.2⟩]
    · rw [if_neg q2, if_neg (by omega)]
/-- how many records come ahead of a source's key -/
def plN (g : Nat → Int32) (s k : Nat) (n : Nat) : Nat := sumN (fun j => b2n (decide (ms g j * 1000 + mk g j < s * 1000 + k))) n
theorem plN_le (g : Nat → Int32) (s k n : Nat) : plN g s k n ≤ n := by
  have := sumN_bd (f := fun j => b2n (decide (ms g j * 1000 + mk g j < s * 1000 + k))) (n := n) (b := 1) (fun i _ => by unfold b2n; split <;> omega)
  unfold plN
  omega
theorem pl_ok {g : Nat → Int32} {A D : AF} (R : RM g A D) (s k : Nat) : ∀ n, n ≤ tot A → (∀ j, j < plN g s k n → ms g j * 1000 + mk g j < s * 1000 + k) ∧ ∀ j, plN g s k n ≤ j → j < n → ¬(ms g j * 1000 + mk g j < s * 1000 + k) := by
  intro n
  induction n with
  | zero => exact fun _ => ⟨fun j hj => absurd hj (Nat.not_lt_zero _), fun j _ hj => absurd hj (Nat.not_lt_zero _)⟩
  | succ n ih =>
    intro hn
    obtain ⟨h1, h2⟩ := ih (by omega)
    have hl := plN_le g s k n
    have e : plN g s k (n + 1) = plN g s k n + b2n (decide (ms g n * 1000 + mk g n < s * 1000 + k)) := rfl
    rw [e]
    by_cases q : ms g n * 1000 + mk g n < s * 1000 + k
    · have hpn : plN g s k n = n := by
        by_cases q2 : plN g s k n = n
        · exact q2
        · have h3 := h2 (plN g s k n) (Nat.le_refl _) (by omega)
          have := R.lt (show plN g s k n < n by omega) (by omega)
          omega
      rw [decide_eq_true q, b2t, hpn]
      refine ⟨fun j hj => ?_, fun j h4 h5 => by omega⟩
      by_cases q3 : j = n
      · subst q3
        exact q
      · exact h1 j (by omega)
    · rw [decide_eq_false q, b2f, Nat.add_zero]
      refine ⟨h1, fun j h4 h5 => ?_⟩
      by_cases q3 : j = n
      · subst q3
        exact q
      · exact h2 j h4 (by omega)
section MC
variable {h : Hp} {A D : AF}
theorem inserts_go (S : MdS h) (R : RM (HI h 242) A D) {s k : Nat} (hs : s < 3) (hk : k < 1000) : ∃ v, CL 226 [.ref 241, .int (nI (97 + s)), .int (nI k)] h = RF 226 80 [.ref 241, .int (nI (97 + s)), .int (nI k), .int (nI (plN (HI h 242) s k (tot A))), .int (nI 132), v] [] h := by
  have m30 := R.m30
  rw [e226]
  obtain ⟨v, hv, _⟩ := lpEx (β := Value) (n := tot A) (x0 := Value.null) (P := fun _ _ => True) (F := fun i v => RF 226 5 [.ref 241, .int (nI (97 + s)), .int (nI k), .int (nI (plN (HI h 242) s k i)), .int (nI i), v] [] h) trivial (fun i v hi _ => by
    have hb := R.b hi
    have p1 := of_s S R hi
    have p2 := of_k S R hi
    have e : plN (HI h 242) s k (i + 1) = plN (HI h 242) s k i + b2n (decide (ms (HI h 242) i * 1000 + mk (HI h 242) i < s * 1000 + k)) := rfl
    have ee : (97 + ms (HI h 242) i = 97 + s) = (ms (HI h 242) i = s) := propext (by omega)
    have el : (97 + ms (HI h 242) i < 97 + s) = (ms (HI h 242) i < s) := propext (by omega)
    rw [e]
    by_cases q1 : ms (HI h 242) i < s
    · refine ⟨.int (nI 1), ?_, trivial⟩
      have q : ms (HI h 242) i * 1000 + mk (HI h 242) i < s * 1000 + k := by omega
      rw [e226_5, decide_eq_true q, b2t]
      simp (disch := omega) only [S.f, S.cw (show 1 < 169 by decide), R.m, hi, p1, p2, el, q1, Nat.succ_ne_self, cond_true, cond_false, bI_ok, bI_er, bV_ok, bV_er, bR_ok, bR_er, bD_ok, bD_er, bF_ok, bF_er, thr_ap, cl_nI, lt_nI, le_nI, eq_nI, m1_lt, nI_m1, m1_nI, nI_lt_m1, add_nI, sub_nI, addm_nI, z_addm, z_subm, mul_nI, fit1_0, fit1_1, fit2_n, HI_wI, HK_wI, HL_wI, HR_wI, ckK_wI, chI_wI, sI_wI, wI_wI, lz0, lz1, lz2, lz3, lz4, lz5, lz6, lz7, lz8, lz9, lz10, lz12, lz13, lz16, lz17, lz20, lz21, lz23, lz26, lz30, lz32, lz35, lz40, lz45, lz48, lz57, lz58, lz59, lz60, lz61, lz63, lz64, lz97, lz99, lz100, lz110, lz111, lz126, lz129, lz132, lz133, lz166, lz169, lz255, lz999, lz1183, lz1800, Nat.reduceAdd, Nat.reduceLT, Nat.reduceEqDiff, Nat.not_lt_zero, Nat.lt_irrefl, ↓reduceIte, Nat.zero_add, Nat.add_zero, ne_eq, not_true_eq_false, not_false_eq_true, reduceCtorEq]
    · by_cases q2 : ms (HI h 242) i = s
      · by_cases q3 : mk (HI h 242) i < k
        · refine ⟨.int (nI 1), ?_, trivial⟩
          have q : ms (HI h 242) i * 1000 + mk (HI h 242) i < s * 1000 + k := by omega
          rw [e226_5, decide_eq_true q, b2t]
          simp (disch := omega) only [S.f, S.cw (show 1 < 169 by decide), R.m, hi, p1, p2, el, ee, q1, q2, q3, Nat.succ_ne_self, cond_true, cond_false, bI_ok, bI_er, bV_ok, bV_er, bR_ok, bR_er, bD_ok, bD_er, bF_ok, bF_er, thr_ap, cl_nI, lt_nI, le_nI, eq_nI, m1_lt, nI_m1, m1_nI, nI_lt_m1, add_nI, sub_nI, addm_nI, z_addm, z_subm, mul_nI, fit1_0, fit1_1, fit2_n, HI_wI, HK_wI, HL_wI, HR_wI, ckK_wI, chI_wI, sI_wI, wI_wI, lz0, lz1, lz2, lz3, lz4, lz5, lz6, lz7, lz8, lz9, lz10, lz12, lz13, lz16, lz17, lz20, lz21, lz23, lz26, lz30, lz32, lz35, lz40, lz45, lz48, lz57, lz58, lz59, lz60, lz61, lz63, lz64, lz97, lz99, lz100, lz110, lz111, lz126, lz129, lz132, lz133, lz166, lz169, lz255, lz999, lz1183, lz1800, Nat.reduceAdd, Nat.reduceLT, Nat.reduceEqDiff, Nat.not_lt_zero, Nat.lt_irrefl, ↓reduceIte, Nat.zero_add, Nat.add_zero, ne_eq, not_true_eq_false, not_false_eq_true, reduceCtorEq]
        · refine ⟨.int (nI 0), ?_, trivial⟩
          have q : ¬(ms (HI h 242) i * 1000 + mk (HI h 242) i < s * 1000 + k) := by omega
          rw [e226_5, decide_eq_false q, b2f]
          simp (disch := omega) only [S.f, S.cw (show 1 < 169 by decide), R.m, hi, p1, p2, el, ee, q1, q2, q3, cond_true, cond_false, bI_ok, bI_er, bV_ok, bV_er, bR_ok, bR_er, bD_ok, bD_er, bF_ok, bF_er, thr_ap, cl_nI, lt_nI, le_nI, eq_nI, m1_lt, nI_m1, m1_nI, nI_lt_m1, add_nI, sub_nI, addm_nI, z_addm, z_subm, mul_nI, fit1_0, fit1_1, fit2_n, HI_wI, HK_wI, HL_wI, HR_wI, ckK_wI, chI_wI, sI_wI, wI_wI, lz0, lz1, lz2, lz3, lz4, lz5, lz6, lz7, lz8, lz9, lz10, lz12, lz13, lz16, lz17, lz20, lz21, lz23, lz26, lz30, lz32, lz35, lz40, lz45, lz48, lz57, lz58, lz59, lz60, lz61, lz63, lz64, lz97, lz99, lz100, lz110, lz111, lz126, lz129, lz132, lz133, lz166, lz169, lz255, lz999, lz1183, lz1800, Nat.reduceAdd, Nat.reduceLT, Nat.reduceEqDiff, Nat.not_lt_zero, Nat.lt_irrefl, ↓reduceIte, Nat.zero_add, Nat.add_zero, ne_eq, not_true_eq_false, not_false_eq_true, reduceCtorEq]
      · refine ⟨.int (nI 0), ?_, trivial⟩
        have q : ¬(ms (HI h 242) i * 1000 + mk (HI h 242) i < s * 1000 + k) := by omega
        rw [e226_5, decide_eq_false q, b2f]
        simp (disch := omega) only [S.f, S.cw (show 1 < 169 by decide), R.m, hi, p1, p2, el, ee, q1, q2, cond_true, cond_false, bI_ok, bI_er, bV_ok, bV_er, bR_ok, bR_er, bD_ok, bD_er, bF_ok, bF_er, thr_ap, cl_nI, lt_nI, le_nI, eq_nI, m1_lt, nI_m1, m1_nI, nI_lt_m1, add_nI, sub_nI, addm_nI, z_addm, z_subm, mul_nI, fit1_0, fit1_1, fit2_n, HI_wI, HK_wI, HL_wI, HR_wI, ckK_wI, chI_wI, sI_wI, wI_wI, lz0, lz1, lz2, lz3, lz4, lz5, lz6, lz7, lz8, lz9, lz10, lz12, lz13, lz16, lz17, lz20, lz21, lz23, lz26, lz30, lz32, lz35, lz40, lz45, lz48, lz57, lz58, lz59, lz60, lz61, lz63, lz64, lz97, lz99, lz100, lz110, lz111, lz126, lz129, lz132, lz133, lz166, lz169, lz255, lz999, lz1183, lz1800, Nat.reduceAdd, Nat.reduceLT, Nat.reduceEqDiff, Nat.not_lt_zero, Nat.lt_irrefl, ↓reduceIte, Nat.zero_add, Nat.add_zero, ne_eq, not_true_eq_false, not_false_eq_true, reduceCtorEq])
  refine ⟨v, hv.trans ?_⟩
  rw [e226_5]
  simp (disch := omega) only [S.f, S.cw (show 1 < 169 by decide), R.m, cond_true, cond_false, bI_ok, bI_er, bV_ok, bV_er, bR_ok, bR_er, bD_ok, bD_er, bF_ok, bF_er, thr_ap, cl_nI, lt_nI, le_nI, eq_nI, m1_lt, nI_m1, m1_nI, nI_lt_m1, add_nI, sub_nI, addm_nI, z_addm, z_subm, mul_nI, fit1_0, fit1_1, fit2_n, HI_wI, HK_wI, HL_wI, HR_wI, ckK_wI, chI_wI, sI_wI, wI_wI, lz0, lz1, lz2, lz3, lz4, lz5, lz6, lz7, lz8, lz9, lz10, lz12, lz13, lz16, lz17, lz20, lz21, lz23, lz26, lz30, lz32, lz35, lz40, lz45, lz48, lz57, lz58, lz59, lz60, lz61, lz63, lz64, lz97, lz99, lz100, lz110, lz111, lz126, lz129, lz132, lz133, lz166, lz169, lz255, lz999, lz1183, lz1800, Nat.reduceAdd, Nat.reduceLT, Nat.reduceEqDiff, Nat.not_lt_zero, Nat.lt_irrefl, ↓reduceIte, Nat.zero_add, Nat.add_zero, ne_eq, not_true_eq_false, not_false_eq_true, reduceCtorEq]
theorem inserts_ok (S : MdS h) (R : RM (HI h 242) A D) {s k : Nat} (hs : s < 3) (hk : k < 1000) (hm : tot A < 30) : CL 226 [.ref 241, .int (nI (97 + s)), .int (nI k)] h = some (.ok .null, wI h (u2 (u2 (u2 (inM (HI h) (plN (HI h 242) s k (tot A)) (13 + 4 * (plN (HI h 242) s k (tot A) + 1))) 242 (13 + 4 * plN (HI h 242) s k (tot A)) (nI (97 + s))) 242 (13 + 4 * plN (HI h 242) s k (tot A) + 1) (nI k)) 242 1 (nI (tot A + 1)))) := by
  obtain ⟨v, hv⟩ := inserts_go S R hs hk
  have hl := plN_le (HI h 242) s k (tot A)
  generalize plN (HI h 242) s k (tot A) = p at *
  have e0 : inM (HI h) p 133 = HI h := by
    funext b x
    exact if_neg (by omega)
  have h1z : inM (HI h) p (13 + 4 * (p + 1)) 242 1 = nI (tot A) := (if_neg (by omega)).trans R.m
  refine hv.trans ((congrArg (fun q => RF 226 80 [.ref 241, .int (nI (97 + s)), .int (nI k), .int (nI p), .int (nI 132), v] [] (wI h q)) e0.symm).trans ?_)
  refine (lpDn (F := fun i => RF 226 80 [.ref 241, .int (nI (97 + s)), .int (nI k), .int (nI p), .int (nI (i - 1)), v] [] (wI h (inM (HI h) p i))) (show 13 + 4 * (p + 1) ≤ 133 by omega) (fun i h1 h2 => ?_)).trans ?_
  · have q : ¬(i < 13 + 4 * (p + 1)) := by omega
    rw [e226_80, Nat.add_sub_cancel]
    simp (disch := omega) only [S.f, S.cw (show i < 169 by omega), S.cw (show i - 4 < 169 by omega), q, inM_step _ _ _ h1 h2, cond_true, cond_false, bI_ok, bI_er, bV_ok, bV_er, bR_ok, bR_er, bD_ok, bD_er, bF_ok, bF_er, thr_ap, cl_nI, lt_nI, le_nI, eq_nI, m1_lt, nI_m1, m1_nI, nI_lt_m1, add_nI, sub_nI, addm_nI, z_addm, z_subm, mul_nI, fit1_0, fit1_1, fit2_n, HI_wI, HK_wI, HL_wI, HR_wI, ckK_wI, chI_wI, sI_wI, wI_wI, lz0, lz1, lz2, lz3, lz4, lz5, lz6, lz7, lz8, lz9, lz10, lz12, lz13, lz16, lz17, lz20, lz21, lz23, lz26, lz30, lz32, lz35, lz40, lz45, lz48, lz57, lz58, lz59, lz60, lz61, lz63, lz64, lz97, lz99, lz100, lz110, lz111, lz126, lz129, lz132, lz133, lz166, lz169, lz255, lz999, lz1183, lz1800, Nat.reduceAdd, Nat.reduceLT, Nat.reduceEqDiff, Nat.not_lt_zero, Nat.lt_irrefl, ↓reduceIte, Nat.zero_add, Nat.add_zero, ne_eq, not_true_eq_false, not_false_eq_true, reduceCtorEq]
  · have q : 13 + 4 * (p + 1) - 1 < 13 + 4 * (p + 1) := by omega
    rw [e226_80]
    simp (disch := omega) only [S.f, S.cw (show 13 + 4 * p < 169 by omega), S.cw (show 13 + 4 * p + 1 < 169 by omega), S.cw (show 1 < 169 by decide), q, h1z, w2_ne, cond_true, cond_false, bI_ok, bI_er, bV_ok, bV_er, bR_ok, bR_er, bD_ok, bD_er, bF_ok, bF_er, thr_ap, cl_nI, lt_nI, le_nI, eq_nI, m1_lt, nI_m1, m1_nI, nI_lt_m1, add_nI, sub_nI, addm_nI, z_addm, z_subm, mul_nI, fit1_0, fit1_1, fit2_n, HI_wI, HK_wI, HL_wI, HR_wI, ckK_wI, chI_wI, sI_wI, wI_wI, lz0, lz1, lz2, lz3, lz4, lz5, lz6, lz7, lz8, lz9, lz10, lz12, lz13, lz16, lz17, lz20, lz21, lz23, lz26, lz30, lz32, lz35, lz40, lz45, lz48, lz57, lz58, lz59, lz60, lz61, lz63, lz64, lz97, lz99, lz100, lz110, lz111, lz126, lz129, lz132, lz133, lz166, lz169, lz255, lz999, lz1183, lz1800, Nat.reduceAdd, Nat.reduceLT, Nat.reduceEqDiff, Nat.not_lt_zero, Nat.lt_irrefl, ↓reduceIte, Nat.zero_add, Nat.add_zero, ne_eq, not_true_eq_false, not_false_eq_true, reduceCtorEq]
end MC
