/-! THE REFERENCE: a report counted -/
section MC
variable {h : Hp} {A D : AF}
theorem carries_old (S : MdS h) (R : RM (HI h 242) A D) {s k a y : Nat} (hs : s < 3) (hk : k < 1000) (ha : 0 < a) (ha2 : a < 100) (hy : HI h 242 0 = nI y) (hy2 : y < 1073741824) (h0 : 0 < A s k) : ∃ f', CL 227 [.ref 241, .int (nI (97 + s)), .int (nI k), .int (nI a)] h = some (.ok .null, wI h f') ∧ RM (f' 242) (sA A s k a) (if A s k = a then D else sA D s k y) ∧ ∀ c x, ¬(c = 242 ∧ 13 ≤ x ∧ x < 133) → f' c x = HI h c x := by
  have m30 := R.m30
  obtain ⟨j, h1, h2, h3, hf⟩ := find_t S R hs hk h0
  have hA := R.a9 hs hk
  have hr := R.r h1
  rw [h2, h3] at hr
  by_cases q : A s k = a
  · refine ⟨HI h, ?_, ?_, fun _ _ _ => rfl⟩
    · rw [e227]
      simp (disch := omega) only [S.f, hf, S.cw (show 13 + 4 * j + 2 < 169 by omega), hr, q, wI_HI, cond_true, cond_false, bI_ok, bI_er, bV_ok, bV_er, bR_ok, bR_er, bD_ok, bD_er, bF_ok, bF_er, thr_ap, cl_nI, lt_nI, le_nI, eq_nI, m1_lt, nI_m1, m1_nI, nI_lt_m1, add_nI, sub_nI, addm_nI, z_addm, z_subm, mul_nI, fit1_0, fit1_1, fit2_n, HI_wI, HK_wI, HL_wI, HR_wI, ckK_wI, chI_wI, sI_wI, wI_wI, lz0, lz1, lz2, lz3, lz4, lz5, lz6, lz7, lz8, lz9, lz10, lz12, lz13, lz16, lz17, lz20, lz21, lz23, lz26, lz30, lz32, lz35, lz40, lz45, lz48, lz57, lz58, lz59, lz60, lz61, lz63, lz64, lz97, lz99, lz100, lz110, lz111, lz126, lz129, lz132, lz133, lz166, lz169, lz255, lz999, lz1183, lz1800, Nat.reduceAdd, Nat.reduceLT, Nat.reduceEqDiff, Nat.not_lt_zero, Nat.lt_irrefl, ↓reduceIte, Nat.zero_add, Nat.add_zero, ne_eq, not_true_eq_false, not_false_eq_true, reduceCtorEq]
    · rw [if_pos q, sA_self q]
      exact R
  · have hu := R.upd (g' := u2 (u2 (HI h) 242 (13 + 4 * j + 2) (nI a)) 242 (13 + 4 * j + 3) (nI y) 242) h1 ha ha2 hy2 (by rw [w2_ne (by omega), w2_eq]) (w2_eq _ _ _ _) (fun x q1 q2 _ => by rw [w2_ne (by omega), w2_ne (by omega)])
    rw [h2, h3] at hu
    refine ⟨u2 (u2 (HI h) 242 (13 + 4 * j + 2) (nI a)) 242 (13 + 4 * j + 3) (nI y), ?_, ?_, fun c x hc => ?_⟩
    · rw [e227]
      simp (disch := omega) only [S.f, hf, S.cw (show 0 < 169 by decide), S.cw (show 13 + 4 * j + 2 < 169 by omega), S.cw (show 13 + 4 * j + 3 < 169 by omega), hr, q, hy, w2_ne, cond_true, cond_false, bI_ok, bI_er, bV_ok, bV_er, bR_ok, bR_er, bD_ok, bD_er, bF_ok, bF_er, thr_ap, cl_nI, lt_nI, le_nI, eq_nI, m1_lt, nI_m1, m1_nI, nI_lt_m1, add_nI, sub_nI, addm_nI, z_addm, z_subm, mul_nI, fit1_0, fit1_1, fit2_n, HI_wI, HK_wI, HL_wI, HR_wI, ckK_wI, chI_wI, sI_wI, wI_wI, lz0, lz1, lz2, lz3, lz4, lz5, lz6, lz7, lz8, lz9, lz10, lz12, lz13, lz16, lz17, lz20, lz21, lz23, lz26, lz30, lz32, lz35, lz40, lz45, lz48, lz57, lz58, lz59, lz60, lz61, lz63, lz64, lz97, lz99, lz100, lz110, lz111, lz126, lz129, lz132, lz133, lz166, lz169, lz255, lz999, lz1183, lz1800, Nat.reduceAdd, Nat.reduceLT, Nat.reduceEqDiff, Nat.not_lt_zero, Nat.lt_irrefl, ↓reduceIte, Nat.zero_add, Nat.add_zero, ne_eq, not_true_eq_false, not_false_eq_true, reduceCtorEq]
    · rw [if_neg q]
      exact hu
    · rw [w2_ne (by omega), w2_ne (by omega)]
theorem inM_at {f : Nat → Nat → Int32} {p x : Nat} (h : 13 + 4 * (p + 1) ≤ x) (h2 : x < 133) : inM f p (13 + 4 * (p + 1)) 242 x = f 242 (x - 4) := if_pos ⟨rfl, h, h2, h⟩
theorem inM_lo {f : Nat → Nat → Int32} {p x a : Nat} (h : ¬(a = 242 ∧ 13 + 4 * (p + 1) ≤ x ∧ x < 133)) : inM f p (13 + 4 * (p + 1)) a x = f a x := if_neg (by omega)
theorem carries_new (S : MdS h) (R : RM (HI h 242) A D) {s k a y : Nat} (hs : s < 3) (hk : k < 1000) (ha : 0 < a) (ha2 : a < 100) (hy : HI h 242 0 = nI y) (hy2 : y < 1073741824) (h0 : A s k = 0) (hm : tot A < 30) : ∃ f', CL 227 [.ref 241, .int (nI (97 + s)), .int (nI k), .int (nI a)] h = some (.ok .null, wI h f') ∧ RM (f' 242) (sA A s k a) (sA D s k y) ∧ ∀ c x, ¬(c = 242 ∧ (x = 1 ∨ (13 ≤ x ∧ x < 133))) → f' c x = HI h c x := by
  have hf := find_n S R hs hk h0
  have hi := inserts_ok S R hs hk hm
  have hl := plN_le (HI h 242) s k (tot A)
  obtain ⟨p1, p2⟩ := pl_ok R s k (tot A) (Nat.le_refl _)
  generalize plN (HI h 242) s k (tot A) = p at *
  have p3 : ∀ j, p ≤ j → j < tot A → s * 1000 + k < ms (HI h 242) j * 1000 + mk (HI h 242) j := fun j q1 q2 => by
    have h1 := p2 j q1 q2
    have hb := R.b q2
    by_cases q3 : ms (HI h 242) j * 1000 + mk (HI h 242) j = s * 1000 + k
    · have e1 : ms (HI h 242) j = s := by omega
      have e2 : mk (HI h 242) j = k := by omega
      rw [e1, e2] at hb
      omega
    · omega
  have hcell : ∀ j c, j ≤ tot A → j ≠ p → c < 4 → inM (HI h) p (13 + 4 * (p + 1)) 242 (13 + 4 * j + c) = HI h 242 (13 + 4 * (if p < j then j - 1 else j) + c) := fun j c q1 q2 q3 => by
    by_cases q : p < j
    · rw [if_pos q, inM_at (by omega) (by omega)]
      congr 1
      omega
    · rw [if_neg q, inM_lo (by omega)]
  have hR := R.ins (g' := u2 (u2 (u2 (u2 (u2 (inM (HI h) p (13 + 4 * (p + 1))) 242 (13 + 4 * p) (nI (97 + s))) 242 (13 + 4 * p + 1) (nI k)) 242 1 (nI (tot A + 1))) 242 (13 + 4 * p + 2) (nI a)) 242 (13 + 4 * p + 3) (nI y) 242) hs hk h0 ha ha2 hy2 hm hl p1 p3 (by rw [w2_ne (by omega), w2_ne (by omega), w2_eq]) (by rw [w2_ne (by omega), w2_ne (by omega), w2_ne (by omega), w2_ne (by omega), w2_eq]) (by rw [w2_ne (by omega), w2_ne (by omega), w2_ne (by omega), w2_eq]) (by rw [w2_ne (by omega), w2_eq]) (w2_eq _ _ _ _) (fun j c q1 q2 q3 => by
    rw [w2_ne (by omega), w2_ne (by omega), w2_ne (by omega), w2_ne (by omega), w2_ne (by omega)]
    exact hcell j c q1 q2 q3)
  have hfr := find_raw (S.wI (u2 (u2 (u2 (inM (HI h) p (13 + 4 * (p + 1))) 242 (13 + 4 * p) (nI (97 + s))) 242 (13 + 4 * p + 1) (nI k)) 242 1 (nI (tot A + 1)))) (n := tot A + 1) (L := fun j => if j = p then s else ms (HI h 242) (if p < j then j - 1 else j)) (K := fun j => if j = p then k else mk (HI h 242) (if p < j then j - 1 else j)) (s := s) (k := k) (p := p) (by omega) (by rw [HI_wI, w2_eq]) (fun j hj => by
    rw [HI_wI]
    by_cases q : j = p
    · subst q
      rw [if_pos rfl, if_pos rfl, w2_ne (by omega), w2_ne (by omega), w2_eq, w2_ne (by omega), w2_eq]
      exact ⟨rfl, rfl, hs, hk⟩
    · have hlt : (if p < j then j - 1 else j) < tot A := by split <;> omega
      have e0 := hcell j 0 (by omega) q (by decide)
      have e1 := hcell j 1 (by omega) q (by decide)
      have e0 : inM (HI h) p (13 + 4 * (p + 1)) 242 (13 + 4 * j) = HI h 242 (13 + 4 * (if p < j then j - 1 else j)) := e0
      rw [if_neg q, if_neg q, w2_ne (by omega), w2_ne (by omega), w2_ne (by omega), w2_ne (by omega), w2_ne (by omega), w2_ne (by omega), e0, e1]
      exact ⟨(R.r hlt).1, (R.r hlt).2.1, (R.b hlt).1, (R.b hlt).2.1⟩) hs hk (by omega) ⟨if_pos rfl, if_pos rfl⟩ (fun j hj q1 q2 => by
    by_cases q : j = p
    · exact q
    · rw [if_neg q] at q1 q2
      have hlt : (if p < j then j - 1 else j) < tot A := by split <;> omega
      have := R.b hlt
      rw [q1, q2] at this
      omega)
  refine ⟨u2 (u2 (u2 (u2 (u2 (inM (HI h) p (13 + 4 * (p + 1))) 242 (13 + 4 * p) (nI (97 + s))) 242 (13 + 4 * p + 1) (nI k)) 242 1 (nI (tot A + 1))) 242 (13 + 4 * p + 2) (nI a)) 242 (13 + 4 * p + 3) (nI y), ?_, hR, fun c x hc => ?_⟩
  · have hy' : inM (HI h) p (13 + 4 * (p + 1)) 242 0 = nI y := (inM_lo (by omega)).trans hy
    rw [e227]
    simp (disch := omega) only [S.f, hf, hi, hfr, S.cw (show 0 < 169 by decide), S.cw (show 13 + 4 * p + 2 < 169 by omega), S.cw (show 13 + 4 * p + 3 < 169 by omega), hy', w2_ne, eq_self, Nat.succ_ne_self, cond_true, cond_false, bI_ok, bI_er, bV_ok, bV_er, bR_ok, bR_er, bD_ok, bD_er, bF_ok, bF_er, thr_ap, cl_nI, lt_nI, le_nI, eq_nI, m1_lt, nI_m1, m1_nI, nI_lt_m1, add_nI, sub_nI, addm_nI, z_addm, z_subm, mul_nI, fit1_0, fit1_1, fit2_n, HI_wI, HK_wI, HL_wI, HR_wI, ckK_wI, chI_wI, sI_wI, wI_wI, lz0, lz1, lz2, lz3, lz4, lz5, lz6, lz7, lz8, lz9, lz10, lz12, lz13, lz16, lz17, lz20, lz21, lz23, lz26, lz30, lz32, lz35, lz40, lz45, lz48, lz57, lz58, lz59, lz60, lz61, lz63, lz64, lz97, lz99, lz100, lz110, lz111, lz126, lz129, lz132, lz133, lz166, lz169, lz255, lz999, lz1183, lz1800, Nat.reduceAdd, Nat.reduceLT, Nat.reduceEqDiff, Nat.not_lt_zero, Nat.lt_irrefl, ↓reduceIte, Nat.zero_add, Nat.add_zero, ne_eq, not_true_eq_false, not_false_eq_true, reduceCtorEq]
  · rw [w2_ne (by omega), w2_ne (by omega), w2_ne (by omega), w2_ne (by omega), w2_ne (by omega), inM_lo (by omega)]
end MC
