/-! WHAT A ROW SAYS: holders, status, accepted amount -/
def d3 (x y z : Nat) : Bool := (decide (x ≠ 0) && decide (y ≠ 0) && decide (x ≠ y)) || (decide (x ≠ 0) && decide (z ≠ 0) && decide (x ≠ z)) || (decide (y ≠ 0) && decide (z ≠ 0) && decide (y ≠ z))
def hol3 (x y z : Nat) : Nat := b2n (decide (0 < x)) + b2n (decide (0 < y)) + b2n (decide (0 < z))
def st3 (x y z : Nat) : Nat := if d3 x y z then 100 else if 1 < hol3 x y z then 99 else 111
def vt3 (a x y z : Nat) : Nat := b2n (decide (x = a)) + b2n (decide (y = a)) + b2n (decide (z = a))
def mn0 (a b : Nat) : Nat := if a = 0 then b else if b = 0 then a else if a < b then a else b
def ac3 (x y z : Nat) : Nat := if x ≠ 0 ∧ (x = y ∨ x = z) then x else if y ≠ 0 ∧ y = z then y else mn0 x (mn0 y z)
theorem st3_lt (x y z : Nat) : st3 x y z < 112 := by
  unfold st3
  split
  · omega
  · split <;> omega
theorem ac3_lt {x y z b : Nat} (hx : x < b) (hy : y < b) (hz : z < b) : ac3 x y z < b := by
  unfold ac3 mn0
  grind
section TB
variable {h : Hp} {t : Nat}
theorem TbS.s0 (S : TbS h t) : ((Nat.beq (HK h (t + 2)) 106 || Nat.beq (HK h (t + 2)) 107) && inb (nI 0) (HL h (t + 2))) = true ∧ ((Nat.beq (HK h (t + 6)) 106 || Nat.beq (HK h (t + 6)) 107) && inb (nI 0) (HL h (t + 6))) = true ∧ HR h (t + 2) 0 = t + 3 ∧ HR h (t + 6) 0 = t + 7 := S.s (s := 0) (by decide)
theorem TbS.s1 (S : TbS h t) : ((Nat.beq (HK h (t + 2)) 106 || Nat.beq (HK h (t + 2)) 107) && inb (nI 1) (HL h (t + 2))) = true ∧ ((Nat.beq (HK h (t + 6)) 106 || Nat.beq (HK h (t + 6)) 107) && inb (nI 1) (HL h (t + 6))) = true ∧ HR h (t + 2) 1 = t + 4 ∧ HR h (t + 6) 1 = t + 8 := S.s (s := 1) (by decide)
theorem TbS.s2 (S : TbS h t) : ((Nat.beq (HK h (t + 2)) 106 || Nat.beq (HK h (t + 2)) 107) && inb (nI 2) (HL h (t + 2))) = true ∧ ((Nat.beq (HK h (t + 6)) 106 || Nat.beq (HK h (t + 6)) 107) && inb (nI 2) (HL h (t + 6))) = true ∧ HR h (t + 2) 2 = t + 5 ∧ HR h (t + 6) 2 = t + 9 := S.s (s := 2) (by decide)
theorem TbS.c0 (S : TbS h t) {r : Nat} (hr : r < 30) : chI h (t + 3) 100 (nI r) = true ∧ chI h (t + 4) 100 (nI r) = true ∧ chI h (t + 5) 100 (nI r) = true ∧ chI h (t + 7) 100 (nI r) = true ∧ chI h (t + 8) 100 (nI r) = true ∧ chI h (t + 9) 100 (nI r) = true := ⟨(S.sr (s := 0) (by decide) hr).1, (S.sr (s := 1) (by decide) hr).1, (S.sr (s := 2) (by decide) hr).1, (S.sr (s := 0) (by decide) hr).2, (S.sr (s := 1) (by decide) hr).2, (S.sr (s := 2) (by decide) hr).2⟩
theorem TbN.a3 {f : Nat → Nat → Int32} (N : TbN f t) {r : Nat} (hr : r < 30) : f (t + 3) r = nI (ta f t 0 r) ∧ f (t + 4) r = nI (ta f t 1 r) ∧ f (t + 5) r = nI (ta f t 2 r) := ⟨N.a (s := 0) (by decide) hr, N.a (s := 1) (by decide) hr, N.a (s := 2) (by decide) hr⟩
theorem holders_eq (S : TbS h t) (N : TbN (HI h) t) {r : Nat} (hr : r < 30) : CL 32 [.ref t, .int (nI r)] h = some (.ok (.int (nI (hol3 (ta (HI h) t 0 r) (ta (HI h) t 1 r) (ta (HI h) t 2 r)))), h) := by
  rw [holdersAt_ok S N hr]
  simp only [sumN, hol3, Nat.zero_add]
theorem votes_eq (S : TbS h t) (N : TbN (HI h) t) {a r : Nat} (ha : a < 100) (hr : r < 30) : CL 14 [.ref t, .int (nI a), .int (nI r)] h = some (.ok (.int (nI (vt3 a (ta (HI h) t 0 r) (ta (HI h) t 1 r) (ta (HI h) t 2 r)))), h) := by
  rw [votesFor_ok S N ha hr]
  simp only [sumN, vt3, Nat.zero_add]
theorem hol3_lt (x y z : Nat) : hol3 x y z < 4 := by
  unfold hol3 b2n
  grind
theorem vt3_lt (a x y z : Nat) : vt3 a x y z < 4 := by
  unfold vt3 b2n
  grind
theorem statusAt_ok (S : TbS h t) (N : TbN (HI h) t) {r : Nat} (hr : r < 30) : CL 33 [.ref t, .int (nI r)] h = some (.ok (.int (nI (st3 (ta (HI h) t 0 r) (ta (HI h) t 1 r) (ta (HI h) t 2 r)))), h) := by
  have x9 := N.a9 (s := 0) (r := r) (by decide) hr
  have y9 := N.a9 (s := 1) (r := r) (by decide) hr
  have z9 := N.a9 (s := 2) (r := r) (by decide) hr
  have hh := holders_eq S N hr
  have h4 := hol3_lt (ta (HI h) t 0 r) (ta (HI h) t 1 r) (ta (HI h) t 2 r)
  have A := N.a3 hr
  unfold st3 d3
  generalize ta (HI h) t 0 r = x at *
  generalize ta (HI h) t 1 r = y at *
  generalize ta (HI h) t 2 r = z at *
  generalize hol3 x y z = q at *
  rw [e33]
  by_cases hx : x = 0 <;> by_cases hy : y = 0 <;> by_cases hz : z = 0 <;> by_cases hxy : x = y <;> by_cases hxz : x = z <;> by_cases hyz : y = z <;> first
    | (exfalso; omega)
    | (have hx1 : (0 < x) = (x ≠ 0) := propext (by omega)
       have hy1 : (0 < y) = (y ≠ 0) := propext (by omega)
       have hz1 : (0 < z) = (z ≠ 0) := propext (by omega)
       have hyx : (y = x) = (x = y) := propext (by omega)
       have hzx : (z = x) = (x = z) := propext (by omega)
       have hzy : (z = y) = (y = z) := propext (by omega)
       by_cases hq : 1 < q <;> simp (disch := omega) only [e33_4, S.f, S.s0, S.s1, S.s2, S.c0 hr, A, hh, hx, hy, hz, hxy, hxz, hyz, hyx, hzx, hzy, hx1, hy1, hz1, hq, Bool.and_true, Bool.and_false, Bool.or_true, Bool.or_false, Bool.false_or, Bool.true_or, decide_true, decide_false, Bool.false_eq_true, Bool.true_and, Bool.false_and, cond_true, cond_false, bI_ok, bI_er, bV_ok, bV_er, bR_ok, bR_er, bD_ok, bD_er, bF_ok, bF_er, thr_ap, cl_nI, lt_nI, le_nI, eq_nI, m1_lt, nI_m1, m1_nI, nI_lt_m1, add_nI, sub_nI, addm_nI, z_addm, z_subm, mul_nI, fit1_0, fit1_1, fit2_n, HI_wI, HK_wI, HL_wI, HR_wI, ckK_wI, chI_wI, sI_wI, wI_wI, lz0, lz1, lz2, lz3, lz4, lz5, lz6, lz7, lz8, lz9, lz10, lz12, lz13, lz16, lz17, lz20, lz21, lz23, lz26, lz30, lz32, lz35, lz40, lz45, lz48, lz57, lz58, lz59, lz60, lz61, lz63, lz64, lz97, lz99, lz100, lz110, lz111, lz126, lz129, lz132, lz133, lz166, lz169, lz255, lz999, lz1183, lz1800, Nat.reduceAdd, Nat.reduceLT, Nat.reduceEqDiff, Nat.not_lt_zero, Nat.lt_irrefl, ↓reduceIte, Nat.zero_add, Nat.add_zero, ne_eq, not_true_eq_false, not_false_eq_true, reduceCtorEq])

def acS (p : Nat × Nat) (v q : Nat) : Nat × Nat := if v = 0 then p else if p.2 < q ∨ (q = p.2 ∧ v < p.1) then (v, q) else p
theorem acS_eq (x y z : Nat) : (acS (acS (acS (0, 0) x (vt3 x x y z)) y (vt3 y x y z)) z (vt3 z x y z)).1 = ac3 x y z := by
  by_cases hx : x = 0 <;> by_cases hy : y = 0 <;> by_cases hz : z = 0 <;> by_cases hxy : x = y <;> by_cases hxz : x = z <;> by_cases hyz : y = z <;> first
    | (exfalso; omega)
    | (unfold acS ac3 mn0 vt3 b2n
       grind)
theorem acc_step (S : TbS h t) (N : TbN (HI h) t) {r s c m : Nat} (hr : r < 30) (hs : s < 3) (hc : c < 100) (hm : m < 4) (a5 a6 : Value) : ∃ b5 b6, RF 15 7 [.ref t, .int (nI r), .int (nI c), .int (nI m), .int (nI s), a5, a6] [] h = RF 15 7 [.ref t, .int (nI r), .int (nI (acS (c, m) (ta (HI h) t s r) (vt3 (ta (HI h) t s r) (ta (HI h) t 0 r) (ta (HI h) t 1 r) (ta (HI h) t 2 r))).1), .int (nI (acS (c, m) (ta (HI h) t s r) (vt3 (ta (HI h) t s r) (ta (HI h) t 0 r) (ta (HI h) t 1 r) (ta (HI h) t 2 r))).2), .int (nI (s + 1)), b5, b6] [] h ∧ (acS (c, m) (ta (HI h) t s r) (vt3 (ta (HI h) t s r) (ta (HI h) t 0 r) (ta (HI h) t 1 r) (ta (HI h) t 2 r))).1 < 100 ∧ (acS (c, m) (ta (HI h) t s r) (vt3 (ta (HI h) t s r) (ta (HI h) t 0 r) (ta (HI h) t 1 r) (ta (HI h) t 2 r))).2 < 4 := by
  have v9 := N.a9 hs hr
  have hv := votes_eq S N v9 hr
  have h4 := vt3_lt (ta (HI h) t s r) (ta (HI h) t 0 r) (ta (HI h) t 1 r) (ta (HI h) t 2 r)
  have A := N.a hs hr
  generalize vt3 (ta (HI h) t s r) (ta (HI h) t 0 r) (ta (HI h) t 1 r) (ta (HI h) t 2 r) = q at *
  generalize ta (HI h) t s r = v at *
  unfold acS
  refine ⟨.int (nI v), if v = 0 then a6 else .int (nI q), ?_, ?_, ?_⟩
  · rw [e15_7]
    by_cases hz : v = 0
    · simp (disch := omega) only [S.f, S.s hs, S.sr hs hr, A, hs, hz, cond_true, cond_false, bI_ok, bI_er, bV_ok, bV_er, bR_ok, bR_er, bD_ok, bD_er, bF_ok, bF_er, thr_ap, cl_nI, lt_nI, le_nI, eq_nI, m1_lt, nI_m1, m1_nI, nI_lt_m1, add_nI, sub_nI, addm_nI, z_addm, z_subm, mul_nI, fit1_0, fit1_1, fit2_n, HI_wI, HK_wI, HL_wI, HR_wI, ckK_wI, chI_wI, sI_wI, wI_wI, lz0, lz1, lz2, lz3, lz4, lz5, lz6, lz7, lz8, lz9, lz10, lz12, lz13, lz16, lz17, lz20, lz21, lz23, lz26, lz30, lz32, lz35, lz40, lz45, lz48, lz57, lz58, lz59, lz60, lz61, lz63, lz64, lz97, lz99, lz100, lz110, lz111, lz126, lz129, lz132, lz133, lz166, lz169, lz255, lz999, lz1183, lz1800, Nat.reduceAdd, Nat.reduceLT, Nat.reduceEqDiff, Nat.not_lt_zero, Nat.lt_irrefl, ↓reduceIte, Nat.zero_add, Nat.add_zero, ne_eq, not_true_eq_false, not_false_eq_true, reduceCtorEq]
    · by_cases h1 : m < q
      · simp (disch := omega) only [S.f, S.s hs, S.sr hs hr, A, hs, hz, hv, h1, true_or, cond_true, cond_false, bI_ok, bI_er, bV_ok, bV_er, bR_ok, bR_er, bD_ok, bD_er, bF_ok, bF_er, thr_ap, cl_nI, lt_nI, le_nI, eq_nI, m1_lt, nI_m1, m1_nI, nI_lt_m1, add_nI, sub_nI, addm_nI, z_addm, z_subm, mul_nI, fit1_0, fit1_1, fit2_n, HI_wI, HK_wI, HL_wI, HR_wI, ckK_wI, chI_wI, sI_wI, wI_wI, lz0, lz1, lz2, lz3, lz4, lz5, lz6, lz7, lz8, lz9, lz10, lz12, lz13, lz16, lz17, lz20, lz21, lz23, lz26, lz30, lz32, lz35, lz40, lz45, lz48, lz57, lz58, lz59, lz60, lz61, lz63, lz64, lz97, lz99, lz100, lz110, lz111, lz126, lz129, lz132, lz133, lz166, lz169, lz255, lz999, lz1183, lz1800, Nat.reduceAdd, Nat.reduceLT, Nat.reduceEqDiff, Nat.not_lt_zero, Nat.lt_irrefl, ↓reduceIte, Nat.zero_add, Nat.add_zero, ne_eq, not_true_eq_false, not_false_eq_true, reduceCtorEq]
      · by_cases h2 : q = m
        · by_cases h3 : v < c <;> simp (disch := omega) only [S.f, S.s hs, S.sr hs hr, A, hs, hz, hv, h1, h2, h3, false_or, and_false, true_and, and_self, cond_true, cond_false, bI_ok, bI_er, bV_ok, bV_er, bR_ok, bR_er, bD_ok, bD_er, bF_ok, bF_er, thr_ap, cl_nI, lt_nI, le_nI, eq_nI, m1_lt, nI_m1, m1_nI, nI_lt_m1, add_nI, sub_nI, addm_nI, z_addm, z_subm, mul_nI, fit1_0, fit1_1, fit2_n, HI_wI, HK_wI, HL_wI, HR_wI, ckK_wI, chI_wI, sI_wI, wI_wI, lz0, lz1, lz2, lz3, lz4, lz5, lz6, lz7, lz8, lz9, lz10, lz12, lz13, lz16, lz17, lz20, lz21, lz23, lz26, lz30, lz32, lz35, lz40, lz45, lz48, lz57, lz58, lz59, lz60, lz61, lz63, lz64, lz97, lz99, lz100, lz110, lz111, lz126, lz129, lz132, lz133, lz166, lz169, lz255, lz999, lz1183, lz1800, Nat.reduceAdd, Nat.reduceLT, Nat.reduceEqDiff, Nat.not_lt_zero, Nat.lt_irrefl, ↓reduceIte, Nat.zero_add, Nat.add_zero, ne_eq, not_true_eq_false, not_false_eq_true, reduceCtorEq]
        · simp (disch := omega) only [S.f, S.s hs, S.sr hs hr, A, hs, hz, hv, h1, h2, false_or, false_and, cond_true, cond_false, bI_ok, bI_er, bV_ok, bV_er, bR_ok, bR_er, bD_ok, bD_er, bF_ok, bF_er, thr_ap, cl_nI, lt_nI, le_nI, eq_nI, m1_lt, nI_m1, m1_nI, nI_lt_m1, add_nI, sub_nI, addm_nI, z_addm, z_subm, mul_nI, fit1_0, fit1_1, fit2_n, HI_wI, HK_wI, HL_wI, HR_wI, ckK_wI, chI_wI, sI_wI, wI_wI, lz0, lz1, lz2, lz3, lz4, lz5, lz6, lz7, lz8, lz9, lz10, lz12, lz13, lz16, lz17, lz20, lz21, lz23, lz26, lz30, lz32, lz35, lz40, lz45, lz48, lz57, lz58, lz59, lz60, lz61, lz63, lz64, lz97, lz99, lz100, lz110, lz111, lz126, lz129, lz132, lz133, lz166, lz169, lz255, lz999, lz1183, lz1800, Nat.reduceAdd, Nat.reduceLT, Nat.reduceEqDiff, Nat.not_lt_zero, Nat.lt_irrefl, ↓reduceIte, Nat.zero_add, Nat.add_zero, ne_eq, not_true_eq_false, not_false_eq_true, reduceCtorEq]
  · grind
  · grind
theorem acceptedAt_ok (S : TbS h t) (N : TbN (HI h) t) {r : Nat} (hr : r < 30) : CL 15 [.ref t, .int (nI r)] h = some (.ok (.int (nI (ac3 (ta (HI h) t 0 r) (ta (HI h) t 1 r) (ta (HI h) t 2 r)))), h) := by
  obtain ⟨b5, b6, q1, q2, q3⟩ := acc_step S N (s := 0) hr (by decide) (c := 0) (m := 0) (by decide) (by decide) .null .null
  obtain ⟨c5, c6, p1, p2, p3⟩ := acc_step S N (s := 1) hr (by decide) q2 q3 b5 b6
  obtain ⟨d5, d6, o1, o2, o3⟩ := acc_step S N (s := 2) hr (by decide) p2 p3 c5 c6
  rw [e15]
  simp only [lz0]
  rw [q1, p1, o1, e15_7]
  simp (disch := omega) only [cond_true, cond_false, bI_ok, bI_er, bV_ok, bV_er, bR_ok, bR_er, bD_ok, bD_er, bF_ok, bF_er, thr_ap, cl_nI, lt_nI, le_nI, eq_nI, m1_lt, nI_m1, m1_nI, nI_lt_m1, add_nI, sub_nI, addm_nI, z_addm, z_subm, mul_nI, fit1_0, fit1_1, fit2_n, HI_wI, HK_wI, HL_wI, HR_wI, ckK_wI, chI_wI, sI_wI, wI_wI, lz0, lz1, lz2, lz3, lz4, lz5, lz6, lz7, lz8, lz9, lz10, lz12, lz13, lz16, lz17, lz20, lz21, lz23, lz26, lz30, lz32, lz35, lz40, lz45, lz48, lz57, lz58, lz59, lz60, lz61, lz63, lz64, lz97, lz99, lz100, lz110, lz111, lz126, lz129, lz132, lz133, lz166, lz169, lz255, lz999, lz1183, lz1800, Nat.reduceAdd, Nat.reduceLT, Nat.reduceEqDiff, Nat.not_lt_zero, Nat.lt_irrefl, ↓reduceIte, Nat.zero_add, Nat.add_zero, ne_eq, not_true_eq_false, not_false_eq_true, reduceCtorEq]
  exact congrArg (fun x => some (Except.ok (Value.int (nI x)), h)) (acS_eq _ _ _)
def sr3 (f : Nat → Nat → Int32) (t r : Nat) : Nat := st3 (ta f t 0 r) (ta f t 1 r) (ta f t 2 r)
theorem countWith_ok (S : TbS h t) (N : TbN (HI h) t) {c : Nat} (hc : c < 112) : CL 57 [.ref t, .int (nI c)] h = some (.ok (.int (nI (sumN (fun r => b2n (decide (sr3 (HI h) t r = c))) (tn (HI h) t)))), h) := by
  have hn := N.n30
  rw [e57]
  simp only [lz0]
  refine (lpUp (F := fun i => RF 57 4 [.ref t, .int (nI c), .int (nI (sumN (fun r => b2n (decide (sr3 (HI h) t r = c))) i)), .int (nI i)] [] h) (Nat.zero_le (tn (HI h) t)) (fun r _ hr => ?_)).trans ?_
  · rw [e57_4]
    have h1 : sr3 (HI h) t r < 112 := st3_lt _ _ _
    have h2 : CL 33 [.ref t, .int (nI r)] h = some (.ok (.int (nI (sr3 (HI h) t r))), h) := statusAt_ok S N (r := r) (by omega)
    by_cases hz : sr3 (HI h) t r = c
    · simp (disch := omega) only [S.f, N.n, hr, h2, hz, sumN, b2n, decide_true, cond_true, cond_false, bI_ok, bI_er, bV_ok, bV_er, bR_ok, bR_er, bD_ok, bD_er, bF_ok, bF_er, thr_ap, cl_nI, lt_nI, le_nI, eq_nI, m1_lt, nI_m1, m1_nI, nI_lt_m1, add_nI, sub_nI, addm_nI, z_addm, z_subm, mul_nI, fit1_0, fit1_1, fit2_n, HI_wI, HK_wI, HL_wI, HR_wI, ckK_wI, chI_wI, sI_wI, wI_wI, lz0, lz1, lz2, lz3, lz4, lz5, lz6, lz7, lz8, lz9, lz10, lz12, lz13, lz16, lz17, lz20, lz21, lz23, lz26, lz30, lz32, lz35, lz40, lz45, lz48, lz57, lz58, lz59, lz60, lz61, lz63, lz64, lz97, lz99, lz100, lz110, lz111, lz126, lz129, lz132, lz133, lz166, lz169, lz255, lz999, lz1183, lz1800, Nat.reduceAdd, Nat.reduceLT, Nat.reduceEqDiff, Nat.not_lt_zero, Nat.lt_irrefl, ↓reduceIte, Nat.zero_add, Nat.add_zero, ne_eq, not_true_eq_false, not_false_eq_true, reduceCtorEq]
    · simp (disch := omega) only [S.f, N.n, hr, h2, hz, sumN, b2n, decide_false, Bool.false_eq_true, cond_true, cond_false, bI_ok, bI_er, bV_ok, bV_er, bR_ok, bR_er, bD_ok, bD_er, bF_ok, bF_er, thr_ap, cl_nI, lt_nI, le_nI, eq_nI, m1_lt, nI_m1, m1_nI, nI_lt_m1, add_nI, sub_nI, addm_nI, z_addm, z_subm, mul_nI, fit1_0, fit1_1, fit2_n, HI_wI, HK_wI, HL_wI, HR_wI, ckK_wI, chI_wI, sI_wI, wI_wI, lz0, lz1, lz2, lz3, lz4, lz5, lz6, lz7, lz8, lz9, lz10, lz12, lz13, lz16, lz17, lz20, lz21, lz23, lz26, lz30, lz32, lz35, lz40, lz45, lz48, lz57, lz58, lz59, lz60, lz61, lz63, lz64, lz97, lz99, lz100, lz110, lz111, lz126, lz129, lz132, lz133, lz166, lz169, lz255, lz999, lz1183, lz1800, Nat.reduceAdd, Nat.reduceLT, Nat.reduceEqDiff, Nat.not_lt_zero, Nat.lt_irrefl, ↓reduceIte, Nat.zero_add, Nat.add_zero, ne_eq, not_true_eq_false, not_false_eq_true, reduceCtorEq]
  · rw [e57_4]
    simp (disch := omega) only [S.f, N.n, cond_true, cond_false, bI_ok, bI_er, bV_ok, bV_er, bR_ok, bR_er, bD_ok, bD_er, bF_ok, bF_er, thr_ap, cl_nI, lt_nI, le_nI, eq_nI, m1_lt, nI_m1, m1_nI, nI_lt_m1, add_nI, sub_nI, addm_nI, z_addm, z_subm, mul_nI, fit1_0, fit1_1, fit2_n, HI_wI, HK_wI, HL_wI, HR_wI, ckK_wI, chI_wI, sI_wI, wI_wI, lz0, lz1, lz2, lz3, lz4, lz5, lz6, lz7, lz8, lz9, lz10, lz12, lz13, lz16, lz17, lz20, lz21, lz23, lz26, lz30, lz32, lz35, lz40, lz45, lz48, lz57, lz58, lz59, lz60, lz61, lz63, lz64, lz97, lz99, lz100, lz110, lz111, lz126, lz129, lz132, lz133, lz166, lz169, lz255, lz999, lz1183, lz1800, Nat.reduceAdd, Nat.reduceLT, Nat.reduceEqDiff, Nat.not_lt_zero, Nat.lt_irrefl, ↓reduceIte, Nat.zero_add, Nat.add_zero, ne_eq, not_true_eq_false, not_false_eq_true, reduceCtorEq]
theorem disputedRow_ok (S : TbS h t) (N : TbN (HI h) t) (p : Int32) : CL 63 [.ref t, .int p] h = some (.ok (.int (oI (fst? (fun r => decide (sr3 (HI h) t r = 100 ∧ nI (sumN (fun r => b2n (decide (sr3 (HI h) t r = 100))) r) = p)) (tn (HI h) t)))), h) := by
  have hn := N.n30
  rw [e63]
  simp only [lz0]
  refine (lpFst (F := fun i => RF 63 4 [.ref t, .int p, .int (nI (sumN (fun r => b2n (decide (sr3 (HI h) t r = 100))) i)), .int (nI i)] [] h) (p := fun r => decide (sr3 (HI h) t r = 100 ∧ nI (sumN (fun r => b2n (decide (sr3 (HI h) t r = 100))) r) = p)) (n := tn (HI h) t) (found := fun i => some (.ok (.int (nI i)), h)) (dflt := some (.ok (.int (-1)), h)) (fun r hr => ?_) ?_).trans ?_
  · rw [e63_4]
    have h1 : sr3 (HI h) t r < 112 := st3_lt _ _ _
    have h2 : CL 33 [.ref t, .int (nI r)] h = some (.ok (.int (nI (sr3 (HI h) t r))), h) := statusAt_ok S N (r := r) (by omega)
    by_cases hz : sr3 (HI h) t r = 100
    · by_cases hp : nI (sumN (fun r => b2n (decide (sr3 (HI h) t r = 100))) r) = p <;> simp (disch := omega) only [S.f, N.n, hr, h2, hz, hp, sumN, b2n, decide_true, true_and, decide_false, decide_eq_true_eq, Bool.false_eq_true, cond_true, cond_false, bI_ok, bI_er, bV_ok, bV_er, bR_ok, bR_er, bD_ok, bD_er, bF_ok, bF_er, thr_ap, cl_nI, lt_nI, le_nI, eq_nI, m1_lt, nI_m1, m1_nI, nI_lt_m1, add_nI, sub_nI, addm_nI, z_addm, z_subm, mul_nI, fit1_0, fit1_1, fit2_n, HI_wI, HK_wI, HL_wI, HR_wI, ckK_wI, chI_wI, sI_wI, wI_wI, lz0, lz1, lz2, lz3, lz4, lz5, lz6, lz7, lz8, lz9, lz10, lz12, lz13, lz16, lz17, lz20, lz21, lz23, lz26, lz30, lz32, lz35, lz40, lz45, lz48, lz57, lz58, lz59, lz60, lz61, lz63, lz64, lz97, lz99, lz100, lz110, lz111, lz126, lz129, lz132, lz133, lz166, lz169, lz255, lz999, lz1183, lz1800, Nat.reduceAdd, Nat.reduceLT, Nat.reduceEqDiff, Nat.not_lt_zero, Nat.lt_irrefl, ↓reduceIte, Nat.zero_add, Nat.add_zero, ne_eq, not_true_eq_false, not_false_eq_true, reduceCtorEq]
    · simp (disch := omega) only [S.f, N.n, hr, h2, hz, sumN, b2n, decide_false, false_and, Bool.false_eq_true, cond_true, cond_false, bI_ok, bI_er, bV_ok, bV_er, bR_ok, bR_er, bD_ok, bD_er, bF_ok, bF_er, thr_ap, cl_nI, lt_nI, le_nI, eq_nI, m1_lt, nI_m1, m1_nI, nI_lt_m1, add_nI, sub_nI, addm_nI, z_addm, z_subm, mul_nI, fit1_0, fit1_1, fit2_n, HI_wI, HK_wI, HL_wI, HR_wI, ckK_wI, chI_wI, sI_wI, wI_wI, lz0, lz1, lz2, lz3, lz4, lz5, lz6, lz7, lz8, lz9, lz10, lz12, lz13, lz16, lz17, lz20, lz21, lz23, lz26, lz30, lz32, lz35, lz40, lz45, lz48, lz57, lz58, lz59, lz60, lz61, lz63, lz64, lz97, lz99, lz100, lz110, lz111, lz126, lz129, lz132, lz133, lz166, lz169, lz255, lz999, lz1183, lz1800, Nat.reduceAdd, Nat.reduceLT, Nat.reduceEqDiff, Nat.not_lt_zero, Nat.lt_irrefl, ↓reduceIte, Nat.zero_add, Nat.add_zero, ne_eq, not_true_eq_false, not_false_eq_true, reduceCtorEq]
  · rw [e63_4]
    simp (disch := omega) only [S.f, N.n, cond_true, cond_false, bI_ok, bI_er, bV_ok, bV_er, bR_ok, bR_er, bD_ok, bD_er, bF_ok, bF_er, thr_ap, cl_nI, lt_nI, le_nI, eq_nI, m1_lt, nI_m1, m1_nI, nI_lt_m1, add_nI, sub_nI, addm_nI, z_addm, z_subm, mul_nI, fit1_0, fit1_1, fit2_n, HI_wI, HK_wI, HL_wI, HR_wI, ckK_wI, chI_wI, sI_wI, wI_wI, lz0, lz1, lz2, lz3, lz4, lz5, lz6, lz7, lz8, lz9, lz10, lz12, lz13, lz16, lz17, lz20, lz21, lz23, lz26, lz30, lz32, lz35, lz40, lz45, lz48, lz57, lz58, lz59, lz60, lz61, lz63, lz64, lz97, lz99, lz100, lz110, lz111, lz126, lz129, lz132, lz133, lz166, lz169, lz255, lz999, lz1183, lz1800, Nat.reduceAdd, Nat.reduceLT, Nat.reduceEqDiff, Nat.not_lt_zero, Nat.lt_irrefl, ↓reduceIte, Nat.zero_add, Nat.add_zero, ne_eq, not_true_eq_false, not_false_eq_true, reduceCtorEq]
  · cases fst? (fun r => decide (sr3 (HI h) t r = 100 ∧ nI (sumN (fun r => b2n (decide (sr3 (HI h) t r = 100))) r) = p)) (tn (HI h) t) <;> rfl
theorem rowAt_ok (S : TbS h t) (N : TbN (HI h) t) {s : Nat} (hs : s < 3) (p : Int32) : CL 128 [.ref t, .int (nI s), .int p] h = some (.ok (.int (oI (fst? (fun r => decide (0 < ta (HI h) t s r ∧ nI (sumN (fun r => b2n (decide (0 < ta (HI h) t s r))) r) = p)) (tn (HI h) t)))), h) := by
  have hn := N.n30
  rw [e128]
  simp only [lz0]
  refine (lpFst (F := fun i => RF 128 5 [.ref t, .int (nI s), .int p, .int (nI (sumN (fun r => b2n (decide (0 < ta (HI h) t s r))) i)), .int (nI i)] [] h) (p := fun r => decide (0 < ta (HI h) t s r ∧ nI (sumN (fun r => b2n (decide (0 < ta (HI h) t s r))) r) = p)) (n := tn (HI h) t) (found := fun i => some (.ok (.int (nI i)), h)) (dflt := some (.ok (.int (-1)), h)) (fun r hr => ?_) ?_).trans ?_
  · rw [e128_5]
    have h1 := N.a9 hs (show r < 30 by omega)
    by_cases hz : 0 < ta (HI h) t s r
    · by_cases hp : nI (sumN (fun r => b2n (decide (0 < ta (HI h) t s r))) r) = p <;> simp (disch := omega) only [S.f, S.s hs, S.sr hs (show r < 30 by omega), N.n, N.a hs (show r < 30 by omega), hr, hz, hp, sumN, b2n, decide_true, true_and, decide_false, decide_eq_true_eq, Bool.false_eq_true, cond_true, cond_false, bI_ok, bI_er, bV_ok, bV_er, bR_ok, bR_er, bD_ok, bD_er, bF_ok, bF_er, thr_ap, cl_nI, lt_nI, le_nI, eq_nI, m1_lt, nI_m1, m1_nI, nI_lt_m1, add_nI, sub_nI, addm_nI, z_addm, z_subm, mul_nI, fit1_0, fit1_1, fit2_n, HI_wI, HK_wI, HL_wI, HR_wI, ckK_wI, chI_wI, sI_wI, wI_wI, lz0, lz1, lz2, lz3, lz4, lz5, lz6, lz7, lz8, lz9, lz10, lz12, lz13, lz16, lz17, lz20, lz21, lz23, lz26, lz30, lz32, lz35, lz40, lz45, lz48, lz57, lz58, lz59, lz60, lz61, lz63, lz64, lz97, lz99, lz100, lz110, lz111, lz126, lz129, lz132, lz133, lz166, lz169, lz255, lz999, lz1183, lz1800, Nat.reduceAdd, Nat.reduceLT, Nat.reduceEqDiff, Nat.not_lt_zero, Nat.lt_irrefl, ↓reduceIte, Nat.zero_add, Nat.add_zero, ne_eq, not_true_eq_false, not_false_eq_true, reduceCtorEq]
    · simp (disch := omega) only [S.f, S.s hs, S.sr hs (show r < 30 by omega), N.n, N.a hs (show r < 30 by omega), hr, hz, sumN, b2n, decide_false, false_and, Bool.false_eq_true, cond_true, cond_false, bI_ok, bI_er, bV_ok, bV_er, bR_ok, bR_er, bD_ok, bD_er, bF_ok, bF_er, thr_ap, cl_nI, lt_nI, le_nI, eq_nI, m1_lt, nI_m1, m1_nI, nI_lt_m1, add_nI, sub_nI, addm_nI, z_addm, z_subm, mul_nI, fit1_0, fit1_1, fit2_n, HI_wI, HK_wI, HL_wI, HR_wI, ckK_wI, chI_wI, sI_wI, wI_wI, lz0, lz1, lz2, lz3, lz4, lz5, lz6, lz7, lz8, lz9, lz10, lz12, lz13, lz16, lz17, lz20, lz21, lz23, lz26, lz30, lz32, lz35, lz40, lz45, lz48, lz57, lz58, lz59, lz60, lz61, lz63, lz64, lz97, lz99, lz100, lz110, lz111, lz126, lz129, lz132, lz133, lz166, lz169, lz255, lz999, lz1183, lz1800, Nat.reduceAdd, Nat.reduceLT, Nat.reduceEqDiff, Nat.not_lt_zero, Nat.lt_irrefl, ↓reduceIte, Nat.zero_add, Nat.add_zero, ne_eq, not_true_eq_false, not_false_eq_true, reduceCtorEq]
  · rw [e128_5]
    simp (disch := omega) only [S.f, N.n, cond_true, cond_false, bI_ok, bI_er, bV_ok, bV_er, bR_ok, bR_er, bD_ok, bD_er, bF_ok, bF_er, thr_ap, cl_nI, lt_nI, le_nI, eq_nI, m1_lt, nI_m1, m1_nI, nI_lt_m1, add_nI, sub_nI, addm_nI, z_addm, z_subm, mul_nI, fit1_0, fit1_1, fit2_n, HI_wI, HK_wI, HL_wI, HR_wI, ckK_wI, chI_wI, sI_wI, wI_wI, lz0, lz1, lz2, lz3, lz4, lz5, lz6, lz7, lz8, lz9, lz10, lz12, lz13, lz16, lz17, lz20, lz21, lz23, lz26, lz30, lz32, lz35, lz40, lz45, lz48, lz57, lz58, lz59, lz60, lz61, lz63, lz64, lz97, lz99, lz100, lz110, lz111, lz126, lz129, lz132, lz133, lz166, lz169, lz255, lz999, lz1183, lz1800, Nat.reduceAdd, Nat.reduceLT, Nat.reduceEqDiff, Nat.not_lt_zero, Nat.lt_irrefl, ↓reduceIte, Nat.zero_add, Nat.add_zero, ne_eq, not_true_eq_false, not_false_eq_true, reduceCtorEq]
  · cases fst? (fun r => decide (0 < ta (HI h) t s r ∧ nI (sumN (fun r => b2n (decide (0 < ta (HI h) t s r))) r) = p)) (tn (HI h) t) <;> rfl
/-- the oldest row of a source among the first n -/
def old? (f : Nat → Nat → Int32) (t s : Nat) : Nat → Option Nat
  | 0 => none
  | n + 1 => match old? f t s n with
    | none => if 0 < ta f t s n then some n else none
    | some b => if 0 < ta f t s n ∧ td f t s n < td f t s b then some n else some b
theorem old_lt {f : Nat → Nat → Int32} {s : Nat} : ∀ {n b : Nat}, old? f t s n = some b → b < n
  | 0, b, hb => by cases hb
  | n + 1, b, hb => by
    simp only [old?] at hb
    cases ho : old? f t s n with
    | none =>
      rw [ho] at hb
      dsimp only at hb
      split at hb
      · cases hb
        omega
      · cases hb
    | some c =>
      have := old_lt ho
      rw [ho] at hb
      dsimp only at hb
      split at hb <;> cases hb <;> omega
theorem oldestRow_ok (S : TbS h t) (N : TbN (HI h) t) {s : Nat} (hs : s < 3) : CL 141 [.ref t, .int (nI s)] h = some (.ok (.int (oI (old? (HI h) t s (tn (HI h) t)))), h) := by
  have hn := N.n30
  rw [e141]
  refine (lpUp (F := fun i => RF 141 4 [.ref t, .int (nI s), .int (oI (old? (HI h) t s i)), .int (nI i)] [] h) (Nat.zero_le (tn (HI h) t)) (fun r _ hr => ?_)).trans ?_
  · rw [e141_4]
    have h1 := N.a9 hs (show r < 30 by omega)
    have h2 := N.d9 hs (show r < 30 by omega)
    simp only [old?]
    cases ho : old? (HI h) t s r with
    | none =>
      by_cases hz : 0 < ta (HI h) t s r
      · simp (disch := omega) only [oI, S.f, S.s hs, S.sr hs (show r < 30 by omega), N.n, N.a hs (show r < 30 by omega), hr, hz, m1_lt, cond_true, cond_false, bI_ok, bI_er, bV_ok, bV_er, bR_ok, bR_er, bD_ok, bD_er, bF_ok, bF_er, thr_ap, cl_nI, lt_nI, le_nI, eq_nI, m1_lt, nI_m1, m1_nI, nI_lt_m1, add_nI, sub_nI, addm_nI, z_addm, z_subm, mul_nI, fit1_0, fit1_1, fit2_n, HI_wI, HK_wI, HL_wI, HR_wI, ckK_wI, chI_wI, sI_wI, wI_wI, lz0, lz1, lz2, lz3, lz4, lz5, lz6, lz7, lz8, lz9, lz10, lz12, lz13, lz16, lz17, lz20, lz21, lz23, lz26, lz30, lz32, lz35, lz40, lz45, lz48, lz57, lz58, lz59, lz60, lz61, lz63, lz64, lz97, lz99, lz100, lz110, lz111, lz126, lz129, lz132, lz133, lz166, lz169, lz255, lz999, lz1183, lz1800, Nat.reduceAdd, Nat.reduceLT, Nat.reduceEqDiff, Nat.not_lt_zero, Nat.lt_irrefl, ↓reduceIte, Nat.zero_add, Nat.add_zero, ne_eq, not_true_eq_false, not_false_eq_true, reduceCtorEq]
      · simp (disch := omega) only [oI, S.f, S.s hs, S.sr hs (show r < 30 by omega), N.n, N.a hs (show r < 30 by omega), hr, hz, cond_true, cond_false, bI_ok, bI_er, bV_ok, bV_er, bR_ok, bR_er, bD_ok, bD_er, bF_ok, bF_er, thr_ap, cl_nI, lt_nI, le_nI, eq_nI, m1_lt, nI_m1, m1_nI, nI_lt_m1, add_nI, sub_nI, addm_nI, z_addm, z_subm, mul_nI, fit1_0, fit1_1, fit2_n, HI_wI, HK_wI, HL_wI, HR_wI, ckK_wI, chI_wI, sI_wI, wI_wI, lz0, lz1, lz2, lz3, lz4, lz5, lz6, lz7, lz8, lz9, lz10, lz12, lz13, lz16, lz17, lz20, lz21, lz23, lz26, lz30, lz32, lz35, lz40, lz45, lz48, lz57, lz58, lz59, lz60, lz61, lz63, lz64, lz97, lz99, lz100, lz110, lz111, lz126, lz129, lz132, lz133, lz166, lz169, lz255, lz999, lz1183, lz1800, Nat.reduceAdd, Nat.reduceLT, Nat.reduceEqDiff, Nat.not_lt_zero, Nat.lt_irrefl, ↓reduceIte, Nat.zero_add, Nat.add_zero, ne_eq, not_true_eq_false, not_false_eq_true, reduceCtorEq]
    | some b =>
      have hb := old_lt ho
      have h3 := N.d9 hs (show b < 30 by omega)
      by_cases hz : 0 < ta (HI h) t s r
      · by_cases hd : td (HI h) t s r < td (HI h) t s b <;> simp (disch := omega) only [oI, S.f, S.s hs, S.sr hs (show r < 30 by omega), S.sr hs (show b < 30 by omega), N.n, N.a hs (show r < 30 by omega), N.d hs (show r < 30 by omega), N.d hs (show b < 30 by omega), hr, hz, hd, and_self, and_false, cond_true, cond_false, bI_ok, bI_er, bV_ok, bV_er, bR_ok, bR_er, bD_ok, bD_er, bF_ok, bF_er, thr_ap, cl_nI, lt_nI, le_nI, eq_nI, m1_lt, nI_m1, m1_nI, nI_lt_m1, add_nI, sub_nI, addm_nI, z_addm, z_subm, mul_nI, fit1_0, fit1_1, fit2_n, HI_wI, HK_wI, HL_wI, HR_wI, ckK_wI, chI_wI, sI_wI, wI_wI, lz0, lz1, lz2, lz3, lz4, lz5, lz6, lz7, lz8, lz9, lz10, lz12, lz13, lz16, lz17, lz20, lz21, lz23, lz26, lz30, lz32, lz35, lz40, lz45, lz48, lz57, lz58, lz59, lz60, lz61, lz63, lz64, lz97, lz99, lz100, lz110, lz111, lz126, lz129, lz132, lz133, lz166, lz169, lz255, lz999, lz1183, lz1800, Nat.reduceAdd, Nat.reduceLT, Nat.reduceEqDiff, Nat.not_lt_zero, Nat.lt_irrefl, ↓reduceIte, Nat.zero_add, Nat.add_zero, ne_eq, not_true_eq_false, not_false_eq_true, reduceCtorEq]
      · simp (disch := omega) only [oI, S.f, S.s hs, S.sr hs (show r < 30 by omega), N.n, N.a hs (show r < 30 by omega), hr, hz, false_and, cond_true, cond_false, bI_ok, bI_er, bV_ok, bV_er, bR_ok, bR_er, bD_ok, bD_er, bF_ok, bF_er, thr_ap, cl_nI, lt_nI, le_nI, eq_nI, m1_lt, nI_m1, m1_nI, nI_lt_m1, add_nI, sub_nI, addm_nI, z_addm, z_subm, mul_nI, fit1_0, fit1_1, fit2_n, HI_wI, HK_wI, HL_wI, HR_wI, ckK_wI, chI_wI, sI_wI, wI_wI, lz0, lz1, lz2, lz3, lz4, lz5, lz6, lz7, lz8, lz9, lz10, lz12, lz13, lz16, lz17, lz20, lz21, lz23, lz26, lz30, lz32, lz35, lz40, lz45, lz48, lz57, lz58, lz59, lz60, lz61, lz63, lz64, lz97, lz99, lz100, lz110, lz111, lz126, lz129, lz132, lz133, lz166, lz169, lz255, lz999, lz1183, lz1800, Nat.reduceAdd, Nat.reduceLT, Nat.reduceEqDiff, Nat.not_lt_zero, Nat.lt_irrefl, ↓reduceIte, Nat.zero_add, Nat.add_zero, ne_eq, not_true_eq_false, not_false_eq_true, reduceCtorEq]
  · rw [e141_4]
    simp (disch := omega) only [S.f, N.n, cond_true, cond_false, bI_ok, bI_er, bV_ok, bV_er, bR_ok, bR_er, bD_ok, bD_er, bF_ok, bF_er, thr_ap, cl_nI, lt_nI, le_nI, eq_nI, m1_lt, nI_m1, m1_nI, nI_lt_m1, add_nI, sub_nI, addm_nI, z_addm, z_subm, mul_nI, fit1_0, fit1_1, fit2_n, HI_wI, HK_wI, HL_wI, HR_wI, ckK_wI, chI_wI, sI_wI, wI_wI, lz0, lz1, lz2, lz3, lz4, lz5, lz6, lz7, lz8, lz9, lz10, lz12, lz13, lz16, lz17, lz20, lz21, lz23, lz26, lz30, lz32, lz35, lz40, lz45, lz48, lz57, lz58, lz59, lz60, lz61, lz63, lz64, lz97, lz99, lz100, lz110, lz111, lz126, lz129, lz132, lz133, lz166, lz169, lz255, lz999, lz1183, lz1800, Nat.reduceAdd, Nat.reduceLT, Nat.reduceEqDiff, Nat.not_lt_zero, Nat.lt_irrefl, ↓reduceIte, Nat.zero_add, Nat.add_zero, ne_eq, not_true_eq_false, not_false_eq_true, reduceCtorEq]
def ab (a b : Nat) : Nat := if b ≤ a then a - b else b - a
theorem abs_nI {a b : Nat} (ha : a < 2147483648) (hb : b < 2147483648) : (if nI 0 ≤ nI a - nI b then nI a - nI b else nI 0 - (nI a - nI b)) = nI (ab a b) := by
  unfold ab
  by_cases hl : b ≤ a
  · have h1 : nI a - nI b = nI (a - b) := by
      have : nI a = nI (a - b) + nI b := by rw [add_nI, Nat.sub_add_cancel hl]
      rw [this, Int32.add_sub_cancel]
    rw [h1, if_pos ((le_nI (a := 0) (by decide) (by omega)).mpr (by omega)), if_pos hl]
  · have h1 : nI a - nI b = -(nI (b - a)) := by
      have : nI b = nI (b - a) + nI a := by rw [add_nI, Nat.sub_add_cancel (by omega)]
      rw [← Int32.neg_sub, this, Int32.add_sub_cancel]
    have h2 : ¬(nI 0 ≤ -(nI (b - a))) := by
      rw [Int32.le_iff_toInt_le, Int32.toInt_neg, nI_toInt (n := b - a) (by omega), nI_toInt (n := 0) (by decide)]
      rw [Int.bmod_eq_of_le (by omega) (by omega)]
      omega
    rw [h1, if_neg h2, if_neg hl]
    show (0 : Int32) - -nI (b - a) = _
    rw [Int32.zero_sub, Int32.neg_neg]
def ps (f : Nat → Nat → Int32) (t s r o q : Nat) : Bool := decide (0 < ta f t s r ∧ 0 < ta f t o q ∧ ta f t s q = 0 ∧ ta f t o r = 0 ∧ ab (tk f t r) (tk f t q) ≤ 20 ∧ ab (ta f t s r) (ta f t o q) ≤ 5)
theorem ab_lt {a b c : Nat} (ha : a < c) (hb : b < c) : ab a b < c := by
  unfold ab
  split <;> omega
theorem isPossible_ok (S : TbS h t) (N : TbN (HI h) t) {s r o q : Nat} (hs : s < 3) (hr : r < 30) (ho : o < 3) (hq : q < 30) : CL 99 [.ref t, .int (nI s), .int (nI r), .int (nI o), .int (nI q)] h = some (.ok (.int (nI (b2n (ps (HI h) t s r o q)))), h) := by
  have a1 := N.a9 hs hr
  have a2 := N.a9 ho hq
  have a3 := N.a9 hs hq
  have a4 := N.a9 ho hr
  have k1 := N.k9 hr
  have k2 := N.k9 hq
  have b1 := ab_lt k1 k2
  have b2 := ab_lt a1 a2
  rw [e99]
  unfold ps
  by_cases h1 : 0 < ta (HI h) t s r
  · by_cases h2 : 0 < ta (HI h) t o q
    · by_cases h3 : ta (HI h) t s q = 0
      · by_cases h4 : ta (HI h) t o r = 0
        · by_cases h5 : ab (tk (HI h) t r) (tk (HI h) t q) ≤ 20
          · have h5' : ¬(20 < ab (tk (HI h) t r) (tk (HI h) t q)) := by omega
            by_cases h6 : ab (ta (HI h) t s r) (ta (HI h) t o q) ≤ 5
            · have h6' : ¬(5 < ab (ta (HI h) t s r) (ta (HI h) t o q)) := by omega
              simp (disch := omega) only [S.f, S.s hs, S.s ho, S.ky hr, S.ky hq, S.sr hs hr, S.sr hs hq, S.sr ho hr, S.sr ho hq, N.a hs hr, N.a hs hq, N.a ho hr, N.a ho hq, N.k hr, N.k hq, h1, h2, h3, h4, h5, h6, h5', h6', abs_nI, decide_true, and_true, b2n, cond_true, cond_false, bI_ok, bI_er, bV_ok, bV_er, bR_ok, bR_er, bD_ok, bD_er, bF_ok, bF_er, thr_ap, cl_nI, lt_nI, le_nI, eq_nI, m1_lt, nI_m1, m1_nI, nI_lt_m1, add_nI, sub_nI, addm_nI, z_addm, z_subm, mul_nI, fit1_0, fit1_1, fit2_n, HI_wI, HK_wI, HL_wI, HR_wI, ckK_wI, chI_wI, sI_wI, wI_wI, lz0, lz1, lz2, lz3, lz4, lz5, lz6, lz7, lz8, lz9, lz10, lz12, lz13, lz16, lz17, lz20, lz21, lz23, lz26, lz30, lz32, lz35, lz40, lz45, lz48, lz57, lz58, lz59, lz60, lz61, lz63, lz64, lz97, lz99, lz100, lz110, lz111, lz126, lz129, lz132, lz133, lz166, lz169, lz255, lz999, lz1183, lz1800, Nat.reduceAdd, Nat.reduceLT, Nat.reduceEqDiff, Nat.not_lt_zero, Nat.lt_irrefl, ↓reduceIte, Nat.zero_add, Nat.add_zero, ne_eq, not_true_eq_false, not_false_eq_true, reduceCtorEq]
            · have h6' : 5 < ab (ta (HI h) t s r) (ta (HI h) t o q) := by omega
              simp (disch := omega) only [S.f, S.s hs, S.s ho, S.ky hr, S.ky hq, S.sr hs hr, S.sr hs hq, S.sr ho hr, S.sr ho hq, N.a hs hr, N.a hs hq, N.a ho hr, N.a ho hq, N.k hr, N.k hq, h1, h2, h3, h4, h5, h6, h5', h6', abs_nI, and_false, decide_false, b2n, Bool.false_eq_true, cond_true, cond_false, bI_ok, bI_er, bV_ok, bV_er, bR_ok, bR_er, bD_ok, bD_er, bF_ok, bF_er, thr_ap, cl_nI, lt_nI, le_nI, eq_nI, m1_lt, nI_m1, m1_nI, nI_lt_m1, add_nI, sub_nI, addm_nI, z_addm, z_subm, mul_nI, fit1_0, fit1_1, fit2_n, HI_wI, HK_wI, HL_wI, HR_wI, ckK_wI, chI_wI, sI_wI, wI_wI, lz0, lz1, lz2, lz3, lz4, lz5, lz6, lz7, lz8, lz9, lz10, lz12, lz13, lz16, lz17, lz20, lz21, lz23, lz26, lz30, lz32, lz35, lz40, lz45, lz48, lz57, lz58, lz59, lz60, lz61, lz63, lz64, lz97, lz99, lz100, lz110, lz111, lz126, lz129, lz132, lz133, lz166, lz169, lz255, lz999, lz1183, lz1800, Nat.reduceAdd, Nat.reduceLT, Nat.reduceEqDiff, Nat.not_lt_zero, Nat.lt_irrefl, ↓reduceIte, Nat.zero_add, Nat.add_zero, ne_eq, not_true_eq_false, not_false_eq_true, reduceCtorEq]
          · have h5' : 20 < ab (tk (HI h) t r) (tk (HI h) t q) := by omega
            simp (disch := omega) only [S.f, S.s hs, S.s ho, S.ky hr, S.ky hq, S.sr hs hr, S.sr hs hq, S.sr ho hr, S.sr ho hq, N.a hs hr, N.a hs hq, N.a ho hr, N.a ho hq, N.k hr, N.k hq, h1, h2, h3, h4, h5, h5', abs_nI, false_and, and_false, decide_false, b2n, Bool.false_eq_true, cond_true, cond_false, bI_ok, bI_er, bV_ok, bV_er, bR_ok, bR_er, bD_ok, bD_er, bF_ok, bF_er, thr_ap, cl_nI, lt_nI, le_nI, eq_nI, m1_lt, nI_m1, m1_nI, nI_lt_m1, add_nI, sub_nI, addm_nI, z_addm, z_subm, mul_nI, fit1_0, fit1_1, fit2_n, HI_wI, HK_wI, HL_wI, HR_wI, ckK_wI, chI_wI, sI_wI, wI_wI, lz0, lz1, lz2, lz3, lz4, lz5, lz6, lz7, lz8, lz9, lz10, lz12, lz13, lz16, lz17, lz20, lz21, lz23, lz26, lz30, lz32, lz35, lz40, lz45, lz48, lz57, lz58, lz59, lz60, lz61, lz63, lz64, lz97, lz99, lz100, lz110, lz111, lz126, lz129, lz132, lz133, lz166, lz169, lz255, lz999, lz1183, lz1800, Nat.reduceAdd, Nat.reduceLT, Nat.reduceEqDiff, Nat.not_lt_zero, Nat.lt_irrefl, ↓reduceIte, Nat.zero_add, Nat.add_zero, ne_eq, not_true_eq_false, not_false_eq_true, reduceCtorEq]
        · simp (disch := omega) only [S.f, S.s hs, S.s ho, S.ky hr, S.ky hq, S.sr hs hr, S.sr hs hq, S.sr ho hr, S.sr ho hq, N.a hs hr, N.a hs hq, N.a ho hr, N.a ho hq, h1, h2, h3, h4, false_and, and_false, decide_false, b2n, Bool.false_eq_true, cond_true, cond_false, bI_ok, bI_er, bV_ok, bV_er, bR_ok, bR_er, bD_ok, bD_er, bF_ok, bF_er, thr_ap, cl_nI, lt_nI, le_nI, eq_nI, m1_lt, nI_m1, m1_nI, nI_lt_m1, add_nI, sub_nI, addm_nI, z_addm, z_subm, mul_nI, fit1_0, fit1_1, fit2_n, HI_wI, HK_wI, HL_wI, HR_wI, ckK_wI, chI_wI, sI_wI, wI_wI, lz0, lz1, lz2, lz3, lz4, lz5, lz6, lz7, lz8, lz9, lz10, lz12, lz13, lz16, lz17, lz20, lz21, lz23, lz26, lz30, lz32, lz35, lz40, lz45, lz48, lz57, lz58, lz59, lz60, lz61, lz63, lz64, lz97, lz99, lz100, lz110, lz111, lz126, lz129, lz132, lz133, lz166, lz169, lz255, lz999, lz1183, lz1800, Nat.reduceAdd, Nat.reduceLT, Nat.reduceEqDiff, Nat.not_lt_zero, Nat.lt_irrefl, ↓reduceIte, Nat.zero_add, Nat.add_zero, ne_eq, not_true_eq_false, not_false_eq_true, reduceCtorEq]
      · simp (disch := omega) only [S.f, S.s hs, S.s ho, S.ky hr, S.ky hq, S.sr hs hr, S.sr hs hq, S.sr ho hr, S.sr ho hq, N.a hs hr, N.a hs hq, N.a ho hr, N.a ho hq, h1, h2, h3, false_and, and_false, decide_false, b2n, Bool.false_eq_true, cond_true, cond_false, bI_ok, bI_er, bV_ok, bV_er, bR_ok, bR_er, bD_ok, bD_er, bF_ok, bF_er, thr_ap, cl_nI, lt_nI, le_nI, eq_nI, m1_lt, nI_m1, m1_nI, nI_lt_m1, add_nI, sub_nI, addm_nI, z_addm, z_subm, mul_nI, fit1_0, fit1_1, fit2_n, HI_wI, HK_wI, HL_wI, HR_wI, ckK_wI, chI_wI, sI_wI, wI_wI, lz0, lz1, lz2, lz3, lz4, lz5, lz6, lz7, lz8, lz9, lz10, lz12, lz13, lz16, lz17, lz20, lz21, lz23, lz26, lz30, lz32, lz35, lz40, lz45, lz48, lz57, lz58, lz59, lz60, lz61, lz63, lz64, lz97, lz99, lz100, lz110, lz111, lz126, lz129, lz132, lz133, lz166, lz169, lz255, lz999, lz1183, lz1800, Nat.reduceAdd, Nat.reduceLT, Nat.reduceEqDiff, Nat.not_lt_zero, Nat.lt_irrefl, ↓reduceIte, Nat.zero_add, Nat.add_zero, ne_eq, not_true_eq_false, not_false_eq_true, reduceCtorEq]
    · simp (disch := omega) only [S.f, S.s hs, S.s ho, S.ky hr, S.ky hq, S.sr hs hr, S.sr hs hq, S.sr ho hr, S.sr ho hq, N.a hs hr, N.a hs hq, N.a ho hr, N.a ho hq, h1, h2, false_and, and_false, decide_false, b2n, Bool.false_eq_true, cond_true, cond_false, bI_ok, bI_er, bV_ok, bV_er, bR_ok, bR_er, bD_ok, bD_er, bF_ok, bF_er, thr_ap, cl_nI, lt_nI, le_nI, eq_nI, m1_lt, nI_m1, m1_nI, nI_lt_m1, add_nI, sub_nI, addm_nI, z_addm, z_subm, mul_nI, fit1_0, fit1_1, fit2_n, HI_wI, HK_wI, HL_wI, HR_wI, ckK_wI, chI_wI, sI_wI, wI_wI, lz0, lz1, lz2, lz3, lz4, lz5, lz6, lz7, lz8, lz9, lz10, lz12, lz13, lz16, lz17, lz20, lz21, lz23, lz26, lz30, lz32, lz35, lz40, lz45, lz48, lz57, lz58, lz59, lz60, lz61, lz63, lz64, lz97, lz99, lz100, lz110, lz111, lz126, lz129, lz132, lz133, lz166, lz169, lz255, lz999, lz1183, lz1800, Nat.reduceAdd, Nat.reduceLT, Nat.reduceEqDiff, Nat.not_lt_zero, Nat.lt_irrefl, ↓reduceIte, Nat.zero_add, Nat.add_zero, ne_eq, not_true_eq_false, not_false_eq_true, reduceCtorEq]
  · simp (disch := omega) only [S.f, S.s hs, S.s ho, S.ky hr, S.ky hq, S.sr hs hr, S.sr hs hq, S.sr ho hr, S.sr ho hq, N.a hs hr, N.a hs hq, N.a ho hr, N.a ho hq, h1, false_and, decide_false, b2n, Bool.false_eq_true, cond_true, cond_false, bI_ok, bI_er, bV_ok, bV_er, bR_ok, bR_er, bD_ok, bD_er, bF_ok, bF_er, thr_ap, cl_nI, lt_nI, le_nI, eq_nI, m1_lt, nI_m1, m1_nI, nI_lt_m1, add_nI, sub_nI, addm_nI, z_addm, z_subm, mul_nI, fit1_0, fit1_1, fit2_n, HI_wI, HK_wI, HL_wI, HR_wI, ckK_wI, chI_wI, sI_wI, wI_wI, lz0, lz1, lz2, lz3, lz4, lz5, lz6, lz7, lz8, lz9, lz10, lz12, lz13, lz16, lz17, lz20, lz21, lz23, lz26, lz30, lz32, lz35, lz40, lz45, lz48, lz57, lz58, lz59, lz60, lz61, lz63, lz64, lz97, lz99, lz100, lz110, lz111, lz126, lz129, lz132, lz133, lz166, lz169, lz255, lz999, lz1183, lz1800, Nat.reduceAdd, Nat.reduceLT, Nat.reduceEqDiff, Nat.not_lt_zero, Nat.lt_irrefl, ↓reduceIte, Nat.zero_add, Nat.add_zero, ne_eq, not_true_eq_false, not_false_eq_true, reduceCtorEq]
/-- two rows are linked -/
def lk (f : Nat → Nat → Int32) (t r q : Nat) : Bool := ps f t 0 r 1 q || ps f t 0 r 2 q || ps f t 1 r 0 q || ps f t 1 r 2 q || ps f t 2 r 0 q || ps f t 2 r 1 q
theorem areLinked_ok (S : TbS h t) (N : TbN (HI h) t) {r q : Nat} (hr : r < 30) (hq : q < 30) : CL 100 [.ref t, .int (nI r), .int (nI q)] h = some (.ok (.int (nI (b2n (lk (HI h) t r q)))), h) := by
  have c1 := isPossible_ok S N (s := 0) (o := 1) (by decide) hr (by decide) hq
  have c2 := isPossible_ok S N (s := 0) (o := 2) (by decide) hr (by decide) hq
  have c3 := isPossible_ok S N (s := 1) (o := 0) (by decide) hr (by decide) hq
  have c4 := isPossible_ok S N (s := 1) (o := 2) (by decide) hr (by decide) hq
  have c5 := isPossible_ok S N (s := 2) (o := 0) (by decide) hr (by decide) hq
  have c6 := isPossible_ok S N (s := 2) (o := 1) (by decide) hr (by decide) hq
  rw [e100]
  unfold lk
  cases h1 : ps (HI h) t 0 r 1 q
  rotate_left
  · simp (disch := omega) only [e100_2, e100_10, S.f, c1, h1, b2n, Bool.true_or, Bool.false_or, Bool.or_true, Bool.or_false, Bool.false_eq_true, cond_true, cond_false, bI_ok, bI_er, bV_ok, bV_er, bR_ok, bR_er, bD_ok, bD_er, bF_ok, bF_er, thr_ap, cl_nI, lt_nI, le_nI, eq_nI, m1_lt, nI_m1, m1_nI, nI_lt_m1, add_nI, sub_nI, addm_nI, z_addm, z_subm, mul_nI, fit1_0, fit1_1, fit2_n, HI_wI, HK_wI, HL_wI, HR_wI, ckK_wI, chI_wI, sI_wI, wI_wI, lz0, lz1, lz2, lz3, lz4, lz5, lz6, lz7, lz8, lz9, lz10, lz12, lz13, lz16, lz17, lz20, lz21, lz23, lz26, lz30, lz32, lz35, lz40, lz45, lz48, lz57, lz58, lz59, lz60, lz61, lz63, lz64, lz97, lz99, lz100, lz110, lz111, lz126, lz129, lz132, lz133, lz166, lz169, lz255, lz999, lz1183, lz1800, Nat.reduceAdd, Nat.reduceLT, Nat.reduceEqDiff, Nat.not_lt_zero, Nat.lt_irrefl, ↓reduceIte, Nat.zero_add, Nat.add_zero, ne_eq, not_true_eq_false, not_false_eq_true, reduceCtorEq]
  cases h2 : ps (HI h) t 0 r 2 q
  rotate_left
  · simp (disch := omega) only [e100_2, e100_10, S.f, c1, h1, c2, h2, b2n, Bool.true_or, Bool.false_or, Bool.or_true, Bool.or_false, Bool.false_eq_true, cond_true, cond_false, bI_ok, bI_er, bV_ok, bV_er, bR_ok, bR_er, bD_ok, bD_er, bF_ok, bF_er, thr_ap, cl_nI, lt_nI, le_nI, eq_nI, m1_lt, nI_m1, m1_nI, nI_lt_m1, add_nI, sub_nI, addm_nI, z_addm, z_subm, mul_nI, fit1_0, fit1_1, fit2_n, HI_wI, HK_wI, HL_wI, HR_wI, ckK_wI, chI_wI, sI_wI, wI_wI, lz0, lz1, lz2, lz3, lz4, lz5, lz6, lz7, lz8, lz9, lz10, lz12, lz13, lz16, lz17, lz20, lz21, lz23, lz26, lz30, lz32, lz35, lz40, lz45, lz48, lz57, lz58, lz59, lz60, lz61, lz63, lz64, lz97, lz99, lz100, lz110, lz111, lz126, lz129, lz132, lz133, lz166, lz169, lz255, lz999, lz1183, lz1800, Nat.reduceAdd, Nat.reduceLT, Nat.reduceEqDiff, Nat.not_lt_zero, Nat.lt_irrefl, ↓reduceIte, Nat.zero_add, Nat.add_zero, ne_eq, not_true_eq_false, not_false_eq_true, reduceCtorEq]
  cases h3 : ps (HI h) t 1 r 0 q
  rotate_left
  · simp (disch := omega) only [e100_2, e100_10, S.f, c1, h1, c2, h2, c3, h3, b2n, Bool.true_or, Bool.false_or, Bool.or_true, Bool.or_false, Bool.false_eq_true, cond_true, cond_false, bI_ok, bI_er, bV_ok, bV_er, bR_ok, bR_er, bD_ok, bD_er, bF_ok, bF_er, thr_ap, cl_nI, lt_nI, le_nI, eq_nI, m1_lt, nI_m1, m1_nI, nI_lt_m1, add_nI, sub_nI, addm_nI, z_addm, z_subm, mul_nI, fit1_0, fit1_1, fit2_n, HI_wI, HK_wI, HL_wI, HR_wI, ckK_wI, chI_wI, sI_wI, wI_wI, lz0, lz1, lz2, lz3, lz4, lz5, lz6, lz7, lz8, lz9, lz10, lz12, lz13, lz16, lz17, lz20, lz21, lz23, lz26, lz30, lz32, lz35, lz40, lz45, lz48, lz57, lz58, lz59, lz60, lz61, lz63, lz64, lz97, lz99, lz100, lz110, lz111, lz126, lz129, lz132, lz133, lz166, lz169, lz255, lz999, lz1183, lz1800, Nat.reduceAdd, Nat.reduceLT, Nat.reduceEqDiff, Nat.not_lt_zero, Nat.lt_irrefl, ↓reduceIte, Nat.zero_add, Nat.add_zero, ne_eq, not_true_eq_false, not_false_eq_true, reduceCtorEq]
  cases h4 : ps (HI h) t 1 r 2 q
  rotate_left
  · simp (disch := omega) only [e100_2, e100_10, S.f, c1, h1, c2, h2, c3, h3, c4, h4, b2n, Bool.true_or, Bool.false_or, Bool.or_true, Bool.or_false, Bool.false_eq_true, cond_true, cond_false, bI_ok, bI_er, bV_ok, bV_er, bR_ok, bR_er, bD_ok, bD_er, bF_ok, bF_er, thr_ap, cl_nI, lt_nI, le_nI, eq_nI, m1_lt, nI_m1, m1_nI, nI_lt_m1, add_nI, sub_nI, addm_nI, z_addm, z_subm, mul_nI, fit1_0, fit1_1, fit2_n, HI_wI, HK_wI, HL_wI, HR_wI, ckK_wI, chI_wI, sI_wI, wI_wI, lz0, lz1, lz2, lz3, lz4, lz5, lz6, lz7, lz8, lz9, lz10, lz12, lz13, lz16, lz17, lz20, lz21, lz23, lz26, lz30, lz32, lz35, lz40, lz45, lz48, lz57, lz58, lz59, lz60, lz61, lz63, lz64, lz97, lz99, lz100, lz110, lz111, lz126, lz129, lz132, lz133, lz166, lz169, lz255, lz999, lz1183, lz1800, Nat.reduceAdd, Nat.reduceLT, Nat.reduceEqDiff, Nat.not_lt_zero, Nat.lt_irrefl, ↓reduceIte, Nat.zero_add, Nat.add_zero, ne_eq, not_true_eq_false, not_false_eq_true, reduceCtorEq]
  cases h5 : ps (HI h) t 2 r 0 q
  rotate_left
  · simp (disch := omega) only [e100_2, e100_10, S.f, c1, h1, c2, h2, c3, h3, c4, h4, c5, h5, b2n, Bool.true_or, Bool.false_or, Bool.or_true, Bool.or_false, Bool.false_eq_true, cond_true, cond_false, bI_ok, bI_er, bV_ok, bV_er, bR_ok, bR_er, bD_ok, bD_er, bF_ok, bF_er, thr_ap, cl_nI, lt_nI, le_nI, eq_nI, m1_lt, nI_m1, m1_nI, nI_lt_m1, add_nI, sub_nI, addm_nI, z_addm, z_subm, mul_nI, fit1_0, fit1_1, fit2_n, HI_wI, HK_wI, HL_wI, HR_wI, ckK_wI, chI_wI, sI_wI, wI_wI, lz0, lz1, lz2, lz3, lz4, lz5, lz6, lz7, lz8, lz9, lz10, lz12, lz13, lz16, lz17, lz20, lz21, lz23, lz26, lz30, lz32, lz35, lz40, lz45, lz48, lz57, lz58, lz59, lz60, lz61, lz63, lz64, lz97, lz99, lz100, lz110, lz111, lz126, lz129, lz132, lz133, lz166, lz169, lz255, lz999, lz1183, lz1800, Nat.reduceAdd, Nat.reduceLT, Nat.reduceEqDiff, Nat.not_lt_zero, Nat.lt_irrefl, ↓reduceIte, Nat.zero_add, Nat.add_zero, ne_eq, not_true_eq_false, not_false_eq_true, reduceCtorEq]
  cases h6 : ps (HI h) t 2 r 1 q <;> simp (disch := omega) only [e100_2, e100_10, S.f, c1, h1, c2, h2, c3, h3, c4, h4, c5, h5, c6, h6, b2n, Bool.true_or, Bool.false_or, Bool.or_true, Bool.or_false, Bool.false_eq_true, cond_true, cond_false, bI_ok, bI_er, bV_ok, bV_er, bR_ok, bR_er, bD_ok, bD_er, bF_ok, bF_er, thr_ap, cl_nI, lt_nI, le_nI, eq_nI, m1_lt, nI_m1, m1_nI, nI_lt_m1, add_nI, sub_nI, addm_nI, z_addm, z_subm, mul_nI, fit1_0, fit1_1, fit2_n, HI_wI, HK_wI, HL_wI, HR_wI, ckK_wI, chI_wI, sI_wI, wI_wI, lz0, lz1, lz2, lz3, lz4, lz5, lz6, lz7, lz8, lz9, lz10, lz12, lz13, lz16, lz17, lz20, lz21, lz23, lz26, lz30, lz32, lz35, lz40, lz45, lz48, lz57, lz58, lz59, lz60, lz61, lz63, lz64, lz97, lz99, lz100, lz110, lz111, lz126, lz129, lz132, lz133, lz166, lz169, lz255, lz999, lz1183, lz1800, Nat.reduceAdd, Nat.reduceLT, Nat.reduceEqDiff, Nat.not_lt_zero, Nat.lt_irrefl, ↓reduceIte, Nat.zero_add, Nat.add_zero, ne_eq, not_true_eq_false, not_false_eq_true, reduceCtorEq]
end TB
