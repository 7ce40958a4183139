/-! THE REFERENCE: withdrawing -/
def tkF (f : Nat → Nat → Int32) (lo i : Nat) : Nat → Nat → Int32 := fun a x => if a = 242 ∧ lo ≤ x ∧ x < i then f 242 (x + 3) else f a x
theorem tkF_step (f : Nat → Nat → Int32) (lo i : Nat) (h : lo ≤ i) : u2 (tkF f lo i) 242 i (tkF f lo i 242 (i + 3)) = tkF f lo (i + 1) := by
  funext b x
  have e1 : tkF f lo i 242 (i + 3) = f 242 (i + 3) := if_neg (by omega)
  rw [e1]
  unfold u2 tkF
  by_cases q : b = 242 ∧ x = i
  · obtain ⟨rfl, rfl⟩ := q
    rw [if_pos ⟨rfl, rfl⟩, if_pos ⟨rfl, h, by omega⟩]
  · rw [if_neg q]
    by_cases q2 : b = 242 ∧ lo ≤ x ∧ x < i
    · rw [if_pos q2, if_pos ⟨q2.1, q2.2.1, by omega⟩]
    · rw [if_neg q2, if_neg (by omega)]
section MC
variable {h : Hp} {b : Bk}
theorem takes_go (S : MdS h) (R : RN (HI h 242) b) (x y z : Int32) : ∃ v, CL 218 [.ref 241, .int x, .int y, .int z] h = RF 218 6 [.ref 241, .int x, .int y, .int z, .int (oI (la? (fun j => decide (nI (97 + (kQ b j).1) = x ∧ nI (kQ b j).2.1 = y ∧ nI (kQ b j).2.2 = z)) (kN b))), .int (nI (kN b)), v] [] h := by
  have n12 := R.q.1
  rw [e218]
  obtain ⟨v, hv, _⟩ := lpEx (β := Value) (n := kN b) (x0 := Value.null) (P := fun _ _ => True) (F := fun i v => RF 218 6 [.ref 241, .int x, .int y, .int z, .int (oI (la? (fun j => decide (nI (97 + (kQ b j).1) = x ∧ nI (kQ b j).2.1 = y ∧ nI (kQ b j).2.2 = z)) i)), .int (nI i), v] [] h) trivial (fun i v hi _ => by
    have p1 := or_s S R.q hi
    have p2 := or_k S R.q hi
    have p3 := or_a S R.q hi
    by_cases q1 : nI (97 + (kQ b i).1) = x
    · by_cases q2 : nI (kQ b i).2.1 = y
      · by_cases q3 : nI (kQ b i).2.2 = z
        · refine ⟨.int (nI 1), ?_, trivial⟩
          rw [e218_6]
          simp (disch := omega) only [S.f, S.cw (show 2 < 169 by decide), R.q.2.1, hi, p1, p2, p3, la_suc, q1, q2, q3, and_self, decide_true, oI_some, Nat.succ_ne_self, cond_true, cond_false, bI_ok, bI_er, bV_ok, bV_er, bR_ok, bR_er, bD_ok, bD_er, bF_ok, bF_er, thr_ap, cl_nI, lt_nI, le_nI, eq_nI, m1_lt, nI_m1, m1_nI, nI_lt_m1, add_nI, sub_nI, addm_nI, z_addm, z_subm, mul_nI, fit1_0, fit1_1, fit2_n, HI_wI, HK_wI, HL_wI, HR_wI, ckK_wI, chI_wI, sI_wI, wI_wI, lz0, lz1, lz2, lz3, lz4, lz5, lz6, lz7, lz8, lz9, lz10, lz12, lz13, lz16, lz17, lz20, lz21, lz23, lz26, lz30, lz32, lz35, lz40, lz45, lz48, lz57, lz58, lz59, lz60, lz61, lz63, lz64, lz97, lz99, lz100, lz110, lz111, lz126, lz129, lz132, lz133, lz166, lz169, lz255, lz999, lz1183, lz1800, Nat.reduceAdd, Nat.reduceLT, Nat.reduceEqDiff, Nat.not_lt_zero, Nat.lt_irrefl, ↓reduceIte, Nat.zero_add, Nat.add_zero, ne_eq, not_true_eq_false, not_false_eq_true, reduceCtorEq]
        · refine ⟨.int (nI 0), ?_, trivial⟩
          rw [e218_6]
          simp (disch := omega) only [S.f, S.cw (show 2 < 169 by decide), R.q.2.1, hi, p1, p2, p3, la_suc, q1, q2, q3, and_false, decide_false, Bool.false_eq_true, cond_true, cond_false, bI_ok, bI_er, bV_ok, bV_er, bR_ok, bR_er, bD_ok, bD_er, bF_ok, bF_er, thr_ap, cl_nI, lt_nI, le_nI, eq_nI, m1_lt, nI_m1, m1_nI, nI_lt_m1, add_nI, sub_nI, addm_nI, z_addm, z_subm, mul_nI, fit1_0, fit1_1, fit2_n, HI_wI, HK_wI, HL_wI, HR_wI, ckK_wI, chI_wI, sI_wI, wI_wI, lz0, lz1, lz2, lz3, lz4, lz5, lz6, lz7, lz8, lz9, lz10, lz12, lz13, lz16, lz17, lz20, lz21, lz23, lz26, lz30, lz32, lz35, lz40, lz45, lz48, lz57, lz58, lz59, lz60, lz61, lz63, lz64, lz97, lz99, lz100, lz110, lz111, lz126, lz129, lz132, lz133, lz166, lz169, lz255, lz999, lz1183, lz1800, Nat.reduceAdd, Nat.reduceLT, Nat.reduceEqDiff, Nat.not_lt_zero, Nat.lt_irrefl, ↓reduceIte, Nat.zero_add, Nat.add_zero, ne_eq, not_true_eq_false, not_false_eq_true, reduceCtorEq]
      · refine ⟨.int (nI 0), ?_, trivial⟩
        rw [e218_6]
        simp (disch := omega) only [S.f, S.cw (show 2 < 169 by decide), R.q.2.1, hi, p1, p2, p3, la_suc, q1, q2, false_and, and_false, decide_false, Bool.false_eq_true, cond_true, cond_false, bI_ok, bI_er, bV_ok, bV_er, bR_ok, bR_er, bD_ok, bD_er, bF_ok, bF_er, thr_ap, cl_nI, lt_nI, le_nI, eq_nI, m1_lt, nI_m1, m1_nI, nI_lt_m1, add_nI, sub_nI, addm_nI, z_addm, z_subm, mul_nI, fit1_0, fit1_1, fit2_n, HI_wI, HK_wI, HL_wI, HR_wI, ckK_wI, chI_wI, sI_wI, wI_wI, lz0, lz1, lz2, lz3, lz4, lz5, lz6, lz7, lz8, lz9, lz10, lz12, lz13, lz16, lz17, lz20, lz21, lz23, lz26, lz30, lz32, lz35, lz40, lz45, lz48, lz57, lz58, lz59, lz60, lz61, lz63, lz64, lz97, lz99, lz100, lz110, lz111, lz126, lz129, lz132, lz133, lz166, lz169, lz255, lz999, lz1183, lz1800, Nat.reduceAdd, Nat.reduceLT, Nat.reduceEqDiff, Nat.not_lt_zero, Nat.lt_irrefl, ↓reduceIte, Nat.zero_add, Nat.add_zero, ne_eq, not_true_eq_false, not_false_eq_true, reduceCtorEq]
    · refine ⟨.int (nI 0), ?_, trivial⟩
      rw [e218_6]
      simp (disch := omega) only [S.f, S.cw (show 2 < 169 by decide), R.q.2.1, hi, p1, p2, p3, la_suc, q1, false_and, decide_false, Bool.false_eq_true, cond_true, cond_false, bI_ok, bI_er, bV_ok, bV_er, bR_ok, bR_er, bD_ok, bD_er, bF_ok, bF_er, thr_ap, cl_nI, lt_nI, le_nI, eq_nI, m1_lt, nI_m1, m1_nI, nI_lt_m1, add_nI, sub_nI, addm_nI, z_addm, z_subm, mul_nI, fit1_0, fit1_1, fit2_n, HI_wI, HK_wI, HL_wI, HR_wI, ckK_wI, chI_wI, sI_wI, wI_wI, lz0, lz1, lz2, lz3, lz4, lz5, lz6, lz7, lz8, lz9, lz10, lz12, lz13, lz16, lz17, lz20, lz21, lz23, lz26, lz30, lz32, lz35, lz40, lz45, lz48, lz57, lz58, lz59, lz60, lz61, lz63, lz64, lz97, lz99, lz100, lz110, lz111, lz126, lz129, lz132, lz133, lz166, lz169, lz255, lz999, lz1183, lz1800, Nat.reduceAdd, Nat.reduceLT, Nat.reduceEqDiff, Nat.not_lt_zero, Nat.lt_irrefl, ↓reduceIte, Nat.zero_add, Nat.add_zero, ne_eq, not_true_eq_false, not_false_eq_true, reduceCtorEq])
  exact ⟨v, hv⟩
theorem la_cong {p q : Nat → Bool} : ∀ {n : Nat}, (∀ i, i < n → p i = q i) → la? p n = la? q n
  | 0, _ => rfl
  | n + 1, h => by
    rw [la_suc, la_suc, h n (by omega), la_cong (fun i hi => h i (by omega))]
theorem takes_la {n : Nat} {Q : QF} {s k a : Nat} (hq : ∀ i, i < n → (Q i).1 < 3 ∧ (Q i).2.1 < 1000 ∧ (Q i).2.2 < 100) (hs : s < 3) (hk : k < 1000) (ha : a < 100) : la? (fun j => decide (nI (97 + (Q j).1) = nI (97 + s) ∧ nI (Q j).2.1 = nI k ∧ nI (Q j).2.2 = nI a)) n = la? (isQ Q s k a) n := la_cong (fun i hi => by
  obtain ⟨h1, h2, h3⟩ := hq i hi
  unfold isQ
  refine decide_eq_decide.mpr ?_
  rw [eq_nI (by omega) (by omega), eq_nI (by omega) (by omega), eq_nI (by omega) (by omega), show (97 + (Q i).1 = 97 + s) = ((Q i).1 = s) from propext (by omega)])
theorem takes_f (S : MdS h) (R : RN (HI h 242) b) (x y z : Int32) (hbad : (inr 97 99 x && inr 0 999 y && inr 1 99 z) = false ∨ la? (fun j => decide (nI (97 + (kQ b j).1) = x ∧ nI (kQ b j).2.1 = y ∧ nI (kQ b j).2.2 = z)) (kN b) = none) : CL 218 [.ref 241, .int x, .int y, .int z] h = some (.ok (.int (nI 0)), wI h (u2 (HI h) 241 16 (nI (if (inr 97 99 x && inr 0 999 y && inr 1 99 z) then 2 else 1)))) := by
  obtain ⟨v, hv⟩ := takes_go S R x y z
  have hr := isReport_ok (h := h) x y z
  have n12 := R.q.1
  rw [hv, e218_6]
  generalize (inr 97 99 x && inr 0 999 y && inr 1 99 z) = p at *
  cases hq : la? (fun j => decide (nI (97 + (kQ b j).1) = x ∧ nI (kQ b j).2.1 = y ∧ nI (kQ b j).2.2 = z)) (kN b) with
  | none =>
    cases p with
    | false =>
      have hg := holds_ok S false false true
      rw [b2t, b2f, show thN false false true = 1 from rfl, show b2n (decide (1 = 0)) = 0 from rfl] at hg
      rw [b2f] at hr
      simp (disch := omega) only [S.f, S.cw (show 2 < 169 by decide), R.q.2.1, hr, hg, oI, eq_self, Bool.false_eq_true, cond_true, cond_false, bI_ok, bI_er, bV_ok, bV_er, bR_ok, bR_er, bD_ok, bD_er, bF_ok, bF_er, thr_ap, cl_nI, lt_nI, le_nI, eq_nI, m1_lt, nI_m1, m1_nI, nI_lt_m1, add_nI, sub_nI, addm_nI, z_addm, z_subm, mul_nI, fit1_0, fit1_1, fit2_n, HI_wI, HK_wI, HL_wI, HR_wI, ckK_wI, chI_wI, sI_wI, wI_wI, lz0, lz1, lz2, lz3, lz4, lz5, lz6, lz7, lz8, lz9, lz10, lz12, lz13, lz16, lz17, lz20, lz21, lz23, lz26, lz30, lz32, lz35, lz40, lz45, lz48, lz57, lz58, lz59, lz60, lz61, lz63, lz64, lz97, lz99, lz100, lz110, lz111, lz126, lz129, lz132, lz133, lz166, lz169, lz255, lz999, lz1183, lz1800, Nat.reduceAdd, Nat.reduceLT, Nat.reduceEqDiff, Nat.not_lt_zero, Nat.lt_irrefl, ↓reduceIte, Nat.zero_add, Nat.add_zero, ne_eq, not_true_eq_false, not_false_eq_true, reduceCtorEq]
    | true =>
      have hg := holds_ok S true false true
      rw [b2t, b2f, show thN true false true = 2 from rfl, show b2n (decide (2 = 0)) = 0 from rfl] at hg
      rw [b2t] at hr
      simp (disch := omega) only [S.f, S.cw (show 2 < 169 by decide), R.q.2.1, hr, hg, oI, eq_self, cond_true, cond_false, bI_ok, bI_er, bV_ok, bV_er, bR_ok, bR_er, bD_ok, bD_er, bF_ok, bF_er, thr_ap, cl_nI, lt_nI, le_nI, eq_nI, m1_lt, nI_m1, m1_nI, nI_lt_m1, add_nI, sub_nI, addm_nI, z_addm, z_subm, mul_nI, fit1_0, fit1_1, fit2_n, HI_wI, HK_wI, HL_wI, HR_wI, ckK_wI, chI_wI, sI_wI, wI_wI, lz0, lz1, lz2, lz3, lz4, lz5, lz6, lz7, lz8, lz9, lz10, lz12, lz13, lz16, lz17, lz20, lz21, lz23, lz26, lz30, lz32, lz35, lz40, lz45, lz48, lz57, lz58, lz59, lz60, lz61, lz63, lz64, lz97, lz99, lz100, lz110, lz111, lz126, lz129, lz132, lz133, lz166, lz169, lz255, lz999, lz1183, lz1800, Nat.reduceAdd, Nat.reduceLT, Nat.reduceEqDiff, Nat.not_lt_zero, Nat.lt_irrefl, ↓reduceIte, Nat.zero_add, Nat.add_zero, ne_eq, not_true_eq_false, not_false_eq_true, reduceCtorEq]
  | some j =>
    have hj := (la_some hq).1
    have hp : p = false := by
      rcases hbad with hb | hb
      · exact hb
      · rw [hq] at hb
        cases hb
    subst hp
    have hg := holds_ok S false true true
    rw [b2t, b2f, show thN false true true = 1 from rfl, show b2n (decide (1 = 0)) = 0 from rfl] at hg
    rw [b2f] at hr
    simp (disch := omega) only [S.f, S.cw (show 2 < 169 by decide), R.q.2.1, hr, hg, oI, Bool.false_eq_true, cond_true, cond_false, bI_ok, bI_er, bV_ok, bV_er, bR_ok, bR_er, bD_ok, bD_er, bF_ok, bF_er, thr_ap, cl_nI, lt_nI, le_nI, eq_nI, m1_lt, nI_m1, m1_nI, nI_lt_m1, add_nI, sub_nI, addm_nI, z_addm, z_subm, mul_nI, fit1_0, fit1_1, fit2_n, HI_wI, HK_wI, HL_wI, HR_wI, ckK_wI, chI_wI, sI_wI, wI_wI, lz0, lz1, lz2, lz3, lz4, lz5, lz6, lz7, lz8, lz9, lz10, lz12, lz13, lz16, lz17, lz20, lz21, lz23, lz26, lz30, lz32, lz35, lz40, lz45, lz48, lz57, lz58, lz59, lz60, lz61, lz63, lz64, lz97, lz99, lz100, lz110, lz111, lz126, lz129, lz132, lz133, lz166, lz169, lz255, lz999, lz1183, lz1800, Nat.reduceAdd, Nat.reduceLT, Nat.reduceEqDiff, Nat.not_lt_zero, Nat.lt_irrefl, ↓reduceIte, Nat.zero_add, Nat.add_zero, ne_eq, not_true_eq_false, not_false_eq_true, reduceCtorEq]
theorem takes_t (S : MdS h) (R : RN (HI h 242) b) {s k a p : Nat} (hs : s < 3) (hk : k < 1000) (ha : 1 ≤ a) (ha2 : a ≤ 99) (hp : la? (isQ (kQ b) s k a) (kN b) = some p) : ∃ f', CL 218 [.ref 241, .int (nI (97 + s)), .int (nI k), .int (nI a)] h = some (.ok (.int (nI (kN b - 1))), wI h f') ∧ RN (f' 242) (rmB b p) ∧ f' 241 16 = nI 0 ∧ FM (HI h) f' := by
  obtain ⟨v, hv⟩ := takes_go S R (nI (97 + s)) (nI k) (nI a)
  have n12 := R.q.1
  have hr := isReport_ok (h := h) (nI (97 + s)) (nI k) (nI a)
  rw [inr_nI (by omega) (by omega) (by decide), inr_nI (by omega) (by omega) (by decide), inr_nI ha ha2 (by decide), show (true && true && true) = true from rfl, b2t] at hr
  have hg := holds_ok S true true true
  rw [b2t, show thN true true true = 0 from rfl, show b2n (decide (0 = 0)) = 1 from rfl] at hg
  have hla := takes_la (n := kN b) (Q := kQ b) (s := s) (k := k) (a := a) (fun i hi => ⟨(R.q.2.2 i hi).2.2.2.1, (R.q.2.2 i hi).2.2.2.2.1, (R.q.2.2 i hi).2.2.2.2.2.2⟩) hs hk (by omega)
  rw [hla, hp, oI_some] at hv
  have hpn := (la_some hp).1
  have h2z : ∀ i, tkF (u2 (HI h) 241 16 (nI 0)) (133 + 3 * p) i 242 2 = nI (kN b) := fun i => (if_neg (by omega)).trans ((w2_ne (by omega)).trans R.q.2.1)
  have hst : CL 218 [.ref 241, .int (nI (97 + s)), .int (nI k), .int (nI a)] h = RF 218 114 [.ref 241, .int (nI (97 + s)), .int (nI k), .int (nI a), .int (nI p), .int (nI (133 + 3 * p)), v] [] (wI h (u2 (HI h) 241 16 (nI 0))) := by
    rw [hv, e218_6]
    simp (disch := omega) only [S.f, S.cw (show 2 < 169 by decide), R.q.2.1, hr, hg, Nat.succ_ne_self, cond_true, cond_false, bI_ok, bI_er, bV_ok, bV_er, bR_ok, bR_er, bD_ok, bD_er, bF_ok, bF_er, thr_ap, cl_nI, lt_nI, le_nI, eq_nI, m1_lt, nI_m1, m1_nI, nI_lt_m1, add_nI, sub_nI, addm_nI, z_addm, z_subm, mul_nI, fit1_0, fit1_1, fit2_n, HI_wI, HK_wI, HL_wI, HR_wI, ckK_wI, chI_wI, sI_wI, wI_wI, lz0, lz1, lz2, lz3, lz4, lz5, lz6, lz7, lz8, lz9, lz10, lz12, lz13, lz16, lz17, lz20, lz21, lz23, lz26, lz30, lz32, lz35, lz40, lz45, lz48, lz57, lz58, lz59, lz60, lz61, lz63, lz64, lz97, lz99, lz100, lz110, lz111, lz126, lz129, lz132, lz133, lz166, lz169, lz255, lz999, lz1183, lz1800, Nat.reduceAdd, Nat.reduceLT, Nat.reduceEqDiff, Nat.not_lt_zero, Nat.lt_irrefl, ↓reduceIte, Nat.zero_add, Nat.add_zero, ne_eq, not_true_eq_false, not_false_eq_true, reduceCtorEq]
  have e0 : u2 (HI h) 241 16 (nI 0) = tkF (u2 (HI h) 241 16 (nI 0)) (133 + 3 * p) (133 + 3 * p) := by
    funext b x
    exact (if_neg (by omega)).symm
  have hgo : ∀ a x, ¬(a = 242 ∧ 133 + 3 * p ≤ x ∧ x < 166) → ¬(a = 242 ∧ x = 2) → ¬(a = 241 ∧ x = 16) → u2 (tkF (u2 (HI h) 241 16 (nI 0)) (133 + 3 * p) 166) 242 2 (nI (kN b - 1)) a x = HI h a x := fun a x q1 q2 q3 => by
    rw [w2_ne q2]
    exact (if_neg q1).trans (w2_ne q3)
  refine ⟨u2 (tkF (u2 (HI h) 241 16 (nI 0)) (133 + 3 * p) 166) 242 2 (nI (kN b - 1)), ?_, ⟨R.1.congr (fun k hk => hgo _ _ (by omega) (by omega) (by omega)), ⟨show kN b - 1 ≤ 12 by omega, w2_eq _ _ _ _, fun i hi => ?_⟩, fun s hs => ?_, fun j hj => ?_, ?_⟩, ?_, fun a x q1 q2 => hgo _ _ (by omega) (by omega) q2⟩
  · refine hst.trans ((congrArg (fun q => RF 218 114 [.ref 241, .int (nI (97 + s)), .int (nI k), .int (nI a), .int (nI p), .int (nI (133 + 3 * p)), v] [] (wI h q)) e0).trans ?_)
    refine (lpUp (F := fun i => RF 218 114 [.ref 241, .int (nI (97 + s)), .int (nI k), .int (nI a), .int (nI p), .int (nI i), v] [] (wI h (tkF (u2 (HI h) 241 16 (nI 0)) (133 + 3 * p) i))) (show 133 + 3 * p ≤ 166 by omega) (fun i h1 h2 => ?_)).trans ?_
    · rw [e218_114]
      simp (disch := omega) only [S.f, h2, S.cw (show i < 169 by omega), S.cw (show i + 3 < 169 by omega), tkF_step _ _ _ h1, cond_true, cond_false, bI_ok, bI_er, bV_ok, bV_er, bR_ok, bR_er, bD_ok, bD_er, bF_ok, bF_er, thr_ap, cl_nI, lt_nI, le_nI, eq_nI, m1_lt, nI_m1, m1_nI, nI_lt_m1, add_nI, sub_nI, addm_nI, z_addm, z_subm, mul_nI, fit1_0, fit1_1, fit2_n, HI_wI, HK_wI, HL_wI, HR_wI, ckK_wI, chI_wI, sI_wI, wI_wI, lz0, lz1, lz2, lz3, lz4, lz5, lz6, lz7, lz8, lz9, lz10, lz12, lz13, lz16, lz17, lz20, lz21, lz23, lz26, lz30, lz32, lz35, lz40, lz45, lz48, lz57, lz58, lz59, lz60, lz61, lz63, lz64, lz97, lz99, lz100, lz110, lz111, lz126, lz129, lz132, lz133, lz166, lz169, lz255, lz999, lz1183, lz1800, Nat.reduceAdd, Nat.reduceLT, Nat.reduceEqDiff, Nat.not_lt_zero, Nat.lt_irrefl, ↓reduceIte, Nat.zero_add, Nat.add_zero, ne_eq, not_true_eq_false, not_false_eq_true, reduceCtorEq]
    · rw [e218_114]
      simp (disch := omega) only [S.f, S.cw (show 2 < 169 by decide), h2z, w2_eq, cond_true, cond_false, bI_ok, bI_er, bV_ok, bV_er, bR_ok, bR_er, bD_ok, bD_er, bF_ok, bF_er, thr_ap, cl_nI, lt_nI, le_nI, eq_nI, m1_lt, nI_m1, m1_nI, nI_lt_m1, add_nI, sub_nI, addm_nI, z_addm, z_subm, mul_nI, fit1_0, fit1_1, fit2_n, HI_wI, HK_wI, HL_wI, HR_wI, ckK_wI, chI_wI, sI_wI, wI_wI, lz0, lz1, lz2, lz3, lz4, lz5, lz6, lz7, lz8, lz9, lz10, lz12, lz13, lz16, lz17, lz20, lz21, lz23, lz26, lz30, lz32, lz35, lz40, lz45, lz48, lz57, lz58, lz59, lz60, lz61, lz63, lz64, lz97, lz99, lz100, lz110, lz111, lz126, lz129, lz132, lz133, lz166, lz169, lz255, lz999, lz1183, lz1800, Nat.reduceAdd, Nat.reduceLT, Nat.reduceEqDiff, Nat.not_lt_zero, Nat.lt_irrefl, ↓reduceIte, Nat.zero_add, Nat.add_zero, ne_eq, not_true_eq_false, not_false_eq_true, reduceCtorEq]
  · have hi : i < kN b - 1 := hi
    have hc : ∀ j, j < 3 → u2 (tkF (u2 (HI h) 241 16 (nI 0)) (133 + 3 * p) 166) 242 2 (nI (kN b - 1)) 242 (133 + 3 * i + j) = HI h 242 (133 + 3 * (if p ≤ i then i + 1 else i) + j) := fun j hj => by
      rw [w2_ne (by omega)]
      by_cases q : p ≤ i
      · rw [if_pos q]
        unfold tkF
        rw [if_pos ⟨rfl, by omega, by omega⟩, w2_ne (by omega)]
        congr 1
        omega
      · rw [if_neg q]
        exact (if_neg (by omega)).trans (w2_ne (by omega))
    show _ = nI (97 + (rmQ (kQ b) p i).1) ∧ _ = nI (rmQ (kQ b) p i).2.1 ∧ _ = nI (rmQ (kQ b) p i).2.2 ∧ (rmQ (kQ b) p i).1 < 3 ∧ (rmQ (kQ b) p i).2.1 < 1000 ∧ 0 < (rmQ (kQ b) p i).2.2 ∧ (rmQ (kQ b) p i).2.2 < 100
    have e1 := hc 0 (by decide)
    have e2 := hc 1 (by decide)
    have e3 := hc 2 (by decide)
    rw [Nat.add_zero, Nat.add_zero] at e1
    rw [e1, e2, e3]
    unfold rmQ
    by_cases q : p ≤ i
    · simp only [q, if_true]
      exact R.q.2.2 (i + 1) (by omega)
    · simp only [q, if_false]
      exact R.q.2.2 i (by omega)
  · rw [hgo _ _ (by omega) (by omega) (by omega)]
    exact R.2.2.1 s hs
  · rw [hgo _ _ (by omega) (by omega) (by omega)]
    exact R.2.2.2.1 j hj
  · rw [hgo _ _ (by omega) (by omega) (by omega)]
    exact R.2.2.2.2
  · rw [w2_ne (by omega)]
    exact (if_neg (by omega)).trans (w2_eq _ _ _ _)
end MC
