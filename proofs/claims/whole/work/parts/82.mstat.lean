/-! THE REFERENCE: accepted amounts, status, keys -/
/-- the best amount so far: the lowest of those with most votes -/
def bstN (V : Nat → Nat) : Nat → Nat
  | 0 => 1
  | i + 1 => if V (bstN V i) < V (i + 2) then i + 2 else bstN V i
theorem bst_ok (V : Nat → Nat) : ∀ i, 1 ≤ bstN V i ∧ bstN V i ≤ i + 1 ∧ ∀ a, 1 ≤ a → a ≤ i + 1 → V a < V (bstN V i) ∨ (V a = V (bstN V i) ∧ bstN V i ≤ a) := by
  intro i
  induction i with
  | zero =>
    refine ⟨Nat.le_refl _, Nat.le_refl _, fun a h1 h2 => ?_⟩
    have : a = 1 := by omega
    subst this
    exact .inr ⟨rfl, Nat.le_refl _⟩
  | succ i ih =>
    obtain ⟨h1, h2, h3⟩ := ih
    unfold bstN
    by_cases hc : V (bstN V i) < V (i + 2)
    · rw [if_pos hc]
      refine ⟨by omega, by omega, fun a q1 q2 => ?_⟩
      by_cases qa : a = i + 2
      · subst qa
        exact .inr ⟨rfl, Nat.le_refl _⟩
      · rcases h3 a q1 (by omega) with h4 | h4
        · exact .inl (by omega)
        · exact .inl (by omega)
    · rw [if_neg hc]
      refine ⟨h1, by omega, fun a q1 q2 => ?_⟩
      by_cases qa : a = i + 2
      · subst qa
        by_cases qe : V (i + 2) = V (bstN V i)
        · exact .inr ⟨qe, by omega⟩
        · exact .inl (by omega)
      · exact h3 a q1 (by omega)
theorem ac3_best (x y z : Nat) (a : Nat) (ha : 0 < a) (h : 0 < hol3 x y z) : 0 < ac3 x y z ∧ (vt3 a x y z < vt3 (ac3 x y z) x y z ∨ (vt3 a x y z = vt3 (ac3 x y z) x y z ∧ ac3 x y z ≤ a)) := by
  rw [hol3_pos] at h
  by_cases hx : x = 0 <;> by_cases hy : y = 0 <;> by_cases hz : z = 0 <;> by_cases hxy : x = y <;> by_cases hxz : x = z <;> by_cases hyz : y = z <;> first
    | (exfalso; omega)
    | (unfold ac3 mn0 vt3 b2n
       grind)
theorem bst_ac {x y z : Nat} (hx : x < 100) (hy : y < 100) (hz : z < 100) (h : 0 < hol3 x y z) : bstN (fun a => vt3 a x y z) 98 = ac3 x y z := by
  obtain ⟨h1, h2, h3⟩ := bst_ok (fun a => vt3 a x y z) 98
  have hl := ac3_lt hx hy hz
  have q := ac3_best x y z (bstN (fun a => vt3 a x y z) 98) h1 h
  have q2 := h3 (ac3 x y z) q.1 (by omega)
  rcases q.2 with q3 | q3 <;> rcases q2 with q4 | q4 <;> omega
theorem st3_ac (x y z : Nat) (h : 0 < hol3 x y z) : (if vt3 (ac3 x y z) x y z < hol3 x y z then 100 else if 1 < hol3 x y z then 99 else 111) = st3 x y z := by
  rw [hol3_pos] at h
  by_cases hx : x = 0 <;> by_cases hy : y = 0 <;> by_cases hz : z = 0 <;> by_cases hxy : x = y <;> by_cases hxz : x = z <;> by_cases hyz : y = z <;> first
    | (exfalso; omega)
    | (unfold st3 d3 ac3 mn0 vt3 hol3 b2n
       grind)
theorem RM.a9 {g : Nat → Int32} {A D : AF} (R : RM g A D) {s k : Nat} (hs : s < 3) (hk : k < 1000) : A s k < 100 := by
  by_cases h0 : 0 < A s k
  · obtain ⟨j, h1, h2, h3⟩ := R.ex hs hk h0
    have := R.b h1
    rw [h2, h3] at this
    exact this.2.2.2.1
  · omega
section MQ
variable {h : Hp} {A D : AF}
theorem accepted_ok (S : MdS h) (R : RM (HI h 242) A D) {k : Nat} (hk : k < 1000) (h0 : 0 < hoA A k) : CL 235 [.ref 241, .int (nI k)] h = some (.ok (.int (nI (acA A k))), h) := by
  have hb := bst_ac (R.a9 (s := 0) (by decide) hk) (R.a9 (s := 1) (by decide) hk) (R.a9 (s := 2) (by decide) hk) h0
  unfold acA
  rw [← hb, e235]
  refine (lpUp (F := fun i => RF 235 4 [.ref 241, .int (nI k), .int (nI (bstN (fun a => vt3 a (A 0 k) (A 1 k) (A 2 k)) i)), .int (nI (i + 2))] [] h) (Nat.zero_le 98) (fun i _ hi => ?_)).trans ?_
  · obtain ⟨h1, h2, _⟩ := bst_ok (fun a => vt3 a (A 0 k) (A 1 k) (A 2 k)) i
    have w1 := withAmount_ok S R hk (a := i + 2) (by omega) (by omega)
    have w2 := withAmount_ok S R hk (a := bstN (fun a => vt3 a (A 0 k) (A 1 k) (A 2 k)) i) (by omega) (by omega)
    have v1 := vt3_lt (i + 2) (A 0 k) (A 1 k) (A 2 k)
    have v2 := vt3_lt (bstN (fun a => vt3 a (A 0 k) (A 1 k) (A 2 k)) i) (A 0 k) (A 1 k) (A 2 k)
    have hi2 : i + 2 < 100 := by omega
    have e3 : bstN (fun a => vt3 a (A 0 k) (A 1 k) (A 2 k)) (i + 1) = if vt3 (bstN (fun a => vt3 a (A 0 k) (A 1 k) (A 2 k)) i) (A 0 k) (A 1 k) (A 2 k) < vt3 (i + 2) (A 0 k) (A 1 k) (A 2 k) then i + 2 else bstN (fun a => vt3 a (A 0 k) (A 1 k) (A 2 k)) i := rfl
    rw [e235_4, e3]
    generalize bstN (fun a => vt3 a (A 0 k) (A 1 k) (A 2 k)) i = p at *
    by_cases q : vt3 p (A 0 k) (A 1 k) (A 2 k) < vt3 (i + 2) (A 0 k) (A 1 k) (A 2 k)
    · simp (disch := omega) only [S.f, hi2, w1, w2, q, cond_true, cond_false, bI_ok, bI_er, bV_ok, bV_er, bR_ok, bR_er, bD_ok, bD_er, bF_ok, bF_er, thr_ap, cl_nI, lt_nI, le_nI, eq_nI, m1_lt, nI_m1, m1_nI, nI_lt_m1, add_nI, sub_nI, addm_nI, z_addm, z_subm, mul_nI, fit1_0, fit1_1, fit2_n, HI_wI, HK_wI, HL_wI, HR_wI, ckK_wI, chI_wI, sI_wI, wI_wI, lz0, lz1, lz2, lz3, lz4, lz5, lz6, lz7, lz8, lz9, lz10, lz12, lz13, lz16, lz17, lz20, lz21, lz23, lz26, lz30, lz32, lz35, lz40, lz45, lz48, lz57, lz58, lz59, lz60, lz61, lz63, lz64, lz97, lz99, lz100, lz110, lz111, lz126, lz129, lz132, lz133, lz166, lz169, lz255, lz999, lz1183, lz1800, Nat.reduceAdd, Nat.reduceLT, Nat.reduceEqDiff, Nat.not_lt_zero, Nat.lt_irrefl, ↓reduceIte, Nat.zero_add, Nat.add_zero, ne_eq, not_true_eq_false, not_false_eq_true, reduceCtorEq]
    · simp (disch := omega) only [S.f, hi2, w1, w2, q, cond_true, cond_false, bI_ok, bI_er, bV_ok, bV_er, bR_ok, bR_er, bD_ok, bD_er, bF_ok, bF_er, thr_ap, cl_nI, lt_nI, le_nI, eq_nI, m1_lt, nI_m1, m1_nI, nI_lt_m1, add_nI, sub_nI, addm_nI, z_addm, z_subm, mul_nI, fit1_0, fit1_1, fit2_n, HI_wI, HK_wI, HL_wI, HR_wI, ckK_wI, chI_wI, sI_wI, wI_wI, lz0, lz1, lz2, lz3, lz4, lz5, lz6, lz7, lz8, lz9, lz10, lz12, lz13, lz16, lz17, lz20, lz21, lz23, lz26, lz30, lz32, lz35, lz40, lz45, lz48, lz57, lz58, lz59, lz60, lz61, lz63, lz64, lz97, lz99, lz100, lz110, lz111, lz126, lz129, lz132, lz133, lz166, lz169, lz255, lz999, lz1183, lz1800, Nat.reduceAdd, Nat.reduceLT, Nat.reduceEqDiff, Nat.not_lt_zero, Nat.lt_irrefl, ↓reduceIte, Nat.zero_add, Nat.add_zero, ne_eq, not_true_eq_false, not_false_eq_true, reduceCtorEq]
  · rw [e235_4]
    simp (disch := omega) only [cond_true, cond_false, bI_ok, bI_er, bV_ok, bV_er, bR_ok, bR_er, bD_ok, bD_er, bF_ok, bF_er, thr_ap, cl_nI, lt_nI, le_nI, eq_nI, m1_lt, nI_m1, m1_nI, nI_lt_m1, add_nI, sub_nI, addm_nI, z_addm, z_subm, mul_nI, fit1_0, fit1_1, fit2_n, HI_wI, HK_wI, HL_wI, HR_wI, ckK_wI, chI_wI, sI_wI, wI_wI, lz0, lz1, lz2, lz3, lz4, lz5, lz6, lz7, lz8, lz9, lz10, lz12, lz13, lz16, lz17, lz20, lz21, lz23, lz26, lz30, lz32, lz35, lz40, lz45, lz48, lz57, lz58, lz59, lz60, lz61, lz63, lz64, lz97, lz99, lz100, lz110, lz111, lz126, lz129, lz132, lz133, lz166, lz169, lz255, lz999, lz1183, lz1800, Nat.reduceAdd, Nat.reduceLT, Nat.reduceEqDiff, Nat.not_lt_zero, Nat.lt_irrefl, ↓reduceIte, Nat.zero_add, Nat.add_zero, ne_eq, not_true_eq_false, not_false_eq_true, reduceCtorEq]
theorem status_ok (S : MdS h) (R : RM (HI h 242) A D) {k : Nat} (hk : k < 1000) (h0 : 0 < hoA A k) : CL 236 [.ref 241, .int (nI k)] h = some (.ok (.int (nI (stA A k))), h) := by
  have hw := withKey_ok S R hk
  have ha := accepted_ok S R hk h0
  have h9 := ac3_lt (R.a9 (s := 0) (by decide) hk) (R.a9 (s := 1) (by decide) hk) (R.a9 (s := 2) (by decide) hk)
  have hp := (ac3_best (A 0 k) (A 1 k) (A 2 k) 1 (by decide) h0).1
  have hv := withAmount_ok S R hk (a := acA A k) hp h9
  have hst := st3_ac (A 0 k) (A 1 k) (A 2 k) h0
  have v4 := vt3_lt (acA A k) (A 0 k) (A 1 k) (A 2 k)
  have h4 := hol3_lt (A 0 k) (A 1 k) (A 2 k)
  have hst2 : stA A k = if vt3 (acA A k) (A 0 k) (A 1 k) (A 2 k) < hoA A k then 100 else if 1 < hoA A k then 99 else 111 := hst.symm
  have h4 : hoA A k < 4 := h4
  rw [hst2, e236]
  by_cases q1 : vt3 (acA A k) (A 0 k) (A 1 k) (A 2 k) < hoA A k
  · simp (disch := omega) only [S.f, hw, ha, hv, q1, cond_true, cond_false, bI_ok, bI_er, bV_ok, bV_er, bR_ok, bR_er, bD_ok, bD_er, bF_ok, bF_er, thr_ap, cl_nI, lt_nI, le_nI, eq_nI, m1_lt, nI_m1, m1_nI, nI_lt_m1, add_nI, sub_nI, addm_nI, z_addm, z_subm, mul_nI, fit1_0, fit1_1, fit2_n, HI_wI, HK_wI, HL_wI, HR_wI, ckK_wI, chI_wI, sI_wI, wI_wI, lz0, lz1, lz2, lz3, lz4, lz5, lz6, lz7, lz8, lz9, lz10, lz12, lz13, lz16, lz17, lz20, lz21, lz23, lz26, lz30, lz32, lz35, lz40, lz45, lz48, lz57, lz58, lz59, lz60, lz61, lz63, lz64, lz97, lz99, lz100, lz110, lz111, lz126, lz129, lz132, lz133, lz166, lz169, lz255, lz999, lz1183, lz1800, Nat.reduceAdd, Nat.reduceLT, Nat.reduceEqDiff, Nat.not_lt_zero, Nat.lt_irrefl, ↓reduceIte, Nat.zero_add, Nat.add_zero, ne_eq, not_true_eq_false, not_false_eq_true, reduceCtorEq]
  · by_cases q2 : 1 < hoA A k <;> simp (disch := omega) only [S.f, hw, ha, hv, q1, q2, cond_true, cond_false, bI_ok, bI_er, bV_ok, bV_er, bR_ok, bR_er, bD_ok, bD_er, bF_ok, bF_er, thr_ap, cl_nI, lt_nI, le_nI, eq_nI, m1_lt, nI_m1, m1_nI, nI_lt_m1, add_nI, sub_nI, addm_nI, z_addm, z_subm, mul_nI, fit1_0, fit1_1, fit2_n, HI_wI, HK_wI, HL_wI, HR_wI, ckK_wI, chI_wI, sI_wI, wI_wI, lz0, lz1, lz2, lz3, lz4, lz5, lz6, lz7, lz8, lz9, lz10, lz12, lz13, lz16, lz17, lz20, lz21, lz23, lz26, lz30, lz32, lz35, lz40, lz45, lz48, lz57, lz58, lz59, lz60, lz61, lz63, lz64, lz97, lz99, lz100, lz110, lz111, lz126, lz129, lz132, lz133, lz166, lz169, lz255, lz999, lz1183, lz1800, Nat.reduceAdd, Nat.reduceLT, Nat.reduceEqDiff, Nat.not_lt_zero, Nat.lt_irrefl, ↓reduceIte, Nat.zero_add, Nat.add_zero, ne_eq, not_true_eq_false, not_false_eq_true, reduceCtorEq]
end MQ
