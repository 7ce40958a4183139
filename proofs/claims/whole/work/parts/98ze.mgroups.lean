/-! THE REFERENCE: groups; the class: isConsistent -/
def eR (A : AF) (g : Nat → Int32) : EF := fun i j => decide (i < tot A ∧ j < tot A ∧ i ≠ j) && (decide (mk g i = mk g j) || ppA A (ms g i) (mk g i) (ms g j) (mk g j))
theorem eR_t {A : AF} {g : Nat → Int32} {i j : Nat} (h : eR A g i j = true) : (i < tot A ∧ j < tot A ∧ i ≠ j) ∧ (mk g i = mk g j ∨ ppA A (ms g i) (mk g i) (ms g j) (mk g j) = true) := by
  unfold eR at h
  rw [Bool.and_eq_true, Bool.or_eq_true] at h
  refine ⟨of_decide_eq_true h.1, ?_⟩
  rcases h.2 with z | z
  · exact .inl (of_decide_eq_true z)
  · exact .inr z
theorem eR_of {A : AF} {g : Nat → Int32} {i j : Nat} (h1 : i < tot A) (h2 : j < tot A) (h3 : i ≠ j) (h : mk g i = mk g j ∨ ppA A (ms g i) (mk g i) (ms g j) (mk g j) = true) : eR A g i j = true := by
  unfold eR
  rw [decide_eq_true ⟨h1, h2, h3⟩, Bool.true_and, Bool.or_eq_true]
  rcases h with z | z
  · exact .inl (decide_eq_true z)
  · exact .inr z
theorem eR_sy (A : AF) (g : Nat → Int32) : Sy (eR A g) := fun x y h => by
  obtain ⟨⟨h1, h2, h3⟩, h4⟩ := eR_t h
  refine eR_of h2 h1 (fun q => h3 q.symm) ?_
  rcases h4 with z | z
  · exact .inl z.symm
  · rw [pp_sy] at z
    exact .inr z
section GM
variable {h : Hp} {A D : AF} {b : Bk}
theorem MdS.gc (S : MdS h) {i : Nat} (hi : i < 30) : chI h 249 100 (nI i) = true := chI_nI S.2.2.2.2.2.2.2.2.2.1.1 S.2.2.2.2.2.2.2.2.2.1.2 hi (by decide)
def GI (E : EF) (n : Nat) (f0 f : Nat → Nat → Int32) (g : Nat → Nat) : Prop := (∀ i, i < n → f 249 i = nI (g i)) ∧ (∀ i, i < n → g i < n ∧ Cn E i (g i)) ∧ ∀ a y, a ≠ 249 → f a y = f0 a y
theorem GI.rm {E : EF} {n : Nat} {f0 f : Nat → Nat → Int32} {g : Nat → Nat} (G : GI E n f0 f g) (R : RM (f0 242) A D) : RM (f 242) A D ∧ (∀ j, ms (f 242) j = ms (f0 242) j) ∧ ∀ j, mk (f 242) j = mk (f0 242) j := ⟨R.congr (fun k _ => G.2.2 242 k (by decide)), fun j => congrArg (fun x : Int32 => x.toNatClampNeg - 97) (G.2.2 242 _ (by decide)), fun j => congrArg (fun x : Int32 => x.toNatClampNeg) (G.2.2 242 _ (by decide))⟩
theorem sum_ud {g : Nat → Nat} {n i v : Nat} (hi : i < n) : sumN (ud g i v) n + g i = sumN g n + v := by
  have := sumN_bump (f := ud g i v) (g := g) hi (fun j _ hj => ud_n hj)
  rw [ud_e] at this
  exact this
theorem pass_ok (S : MdS h) {f0 : Nat → Nat → Int32} (R : RM (f0 242) A D) {f : Nat → Nat → Int32} {g : Nat → Nat} (G : GI (eR A (f0 242)) (tot A) f0 f g) (v : Value) : ∃ f' g' ch w v', RF 297 35 [.ref 241, .int (nI 0), .int (nI 0), v] [] (wI h f) = RF 297 27 [.ref 241, .int (nI (b2n ch)), w, v'] [] (wI h f') ∧ GI (eR A (f0 242)) (tot A) f0 f' g' ∧ sumN g' (tot A) + b2n ch ≤ sumN g (tot A) ∧ (ch = false → g' = g ∧ ∀ a c, a < tot A → c < a → eR A (f0 242) a c = true → g a = g c) := by
  have m30 := R.m30
  obtain ⟨⟨f', g', ch, w⟩, e1, k1, k2, k3⟩ := lpEx (β := (Nat → Nat → Int32) × (Nat → Nat) × Bool × Value) (n := tot A) (x0 := (f, g, false, v)) (F := fun i x => RF 297 35 [.ref 241, .int (nI (b2n x.2.2.1)), .int (nI i), x.2.2.2] [] (wI h x.1)) (P := fun i x => GI (eR A (f0 242)) (tot A) f0 x.1 x.2.1 ∧ sumN x.2.1 (tot A) + b2n x.2.2.1 ≤ sumN g (tot A) ∧ (x.2.2.1 = false → x.2.1 = g ∧ ∀ a c, a < i → c < a → eR A (f0 242) a c = true → g a = g c)) ⟨G, by dsimp only; rw [b2f]; omega, fun _ => ⟨rfl, fun a c ha => absurd ha (Nat.not_lt_zero a)⟩⟩ (fun i x hi hP => by
    obtain ⟨f, g1, ch, v⟩ := x
    obtain ⟨k1, k2, k3⟩ := hP
    dsimp only at k1 k2 k3 ⊢
    have f1 : f 242 1 = nI (tot A) := (k1.rm R).1.m
    obtain ⟨⟨f', g', ch'⟩, e1, l1, l2, l3⟩ := lpEx (β := (Nat → Nat → Int32) × (Nat → Nat) × Bool) (n := i) (x0 := (f, g1, ch)) (F := fun c x => RF 297 47 [.ref 241, .int (nI (b2n x.2.2)), .int (nI i), .int (nI c)] [] (wI h x.1)) (P := fun j x => GI (eR A (f0 242)) (tot A) f0 x.1 x.2.1 ∧ sumN x.2.1 (tot A) + b2n x.2.2 ≤ sumN g (tot A) ∧ (x.2.2 = false → x.2.1 = g ∧ (∀ a c, a < i → c < a → eR A (f0 242) a c = true → g a = g c) ∧ ∀ c, c < j → eR A (f0 242) i c = true → g i = g c)) ⟨k1, k2, fun z => ⟨(k3 z).1, (k3 z).2, fun c hc => absurd hc (Nat.not_lt_zero c)⟩⟩ (fun c x hc hP => by
      obtain ⟨f, g1, ch⟩ := x
      obtain ⟨k1, k2, k3⟩ := hP
      dsimp only at k1 k2 k3 ⊢
      obtain ⟨Rf, em, ekk⟩ := k1.rm R
      have gi := k1.1 i hi
      have gc := k1.1 c (by omega)
      have bi := (k1.2.1 i hi).1
      have bc := (k1.2.1 c (by omega)).1
      by_cases q1 : g1 i = g1 c
      · refine ⟨(f, g1, ch), ?_, k1, k2, fun z => ⟨(k3 z).1, (k3 z).2.1, fun c' hc' he => ?_⟩⟩
        · dsimp only
          rw [e297_47]
          simp (disch := omega) only [S.f, S.gc (show i < 30 by omega), S.gc (show c < 30 by omega), hc, gi, gc, q1, cond_true, cond_false, bI_ok, bI_er, bV_ok, bV_er, bR_ok, bR_er, bD_ok, bD_er, bF_ok, bF_er, thr_ap, cl_nI, lt_nI, le_nI, eq_nI, m1_lt, nI_m1, m1_nI, nI_lt_m1, add_nI, sub_nI, addm_nI, z_addm, z_subm, mul_nI, fit1_0, fit1_1, fit2_n, HI_wI, HK_wI, HL_wI, HR_wI, ckK_wI, chI_wI, sI_wI, wI_wI, lz0, lz1, lz2, lz3, lz4, lz5, lz6, lz7, lz8, lz9, lz10, lz12, lz13, lz16, lz17, lz20, lz21, lz23, lz26, lz30, lz32, lz35, lz40, lz45, lz48, lz57, lz58, lz59, lz60, lz61, lz63, lz64, lz97, lz99, lz100, lz110, lz111, lz126, lz129, lz132, lz133, lz166, lz169, lz255, lz999, lz1183, lz1800, Nat.reduceAdd, Nat.reduceLT, Nat.reduceEqDiff, Nat.not_lt_zero, Nat.lt_irrefl, ↓reduceIte, Nat.zero_add, Nat.add_zero, ne_eq, not_true_eq_false, not_false_eq_true, reduceCtorEq]
        · by_cases y : c' = c
          · rw [y, ← (k3 z).1]
            exact q1
          · exact (k3 z).2.2 c' (by omega) he
      · have hl := isLinked_ok (S.wI f) Rf hi (show c < tot A by omega)
        rw [HI_wI, em, em, ekk, ekk] at hl
        have hE : eR A (f0 242) i c = (decide (mk (f0 242) i = mk (f0 242) c) || ppA A (ms (f0 242) i) (mk (f0 242) i) (ms (f0 242) c) (mk (f0 242) c)) := by
          unfold eR
          rw [decide_eq_true ⟨hi, by omega, by omega⟩, Bool.true_and]
        rw [← hE] at hl
        cases hq : eR A (f0 242) i c with
        | false =>
          rw [hq, b2f] at hl
          refine ⟨(f, g1, ch), ?_, k1, k2, fun z => ⟨(k3 z).1, (k3 z).2.1, fun c' hc' he => ?_⟩⟩
          · dsimp only
            rw [e297_47]
            simp (disch := omega) only [S.f, S.gc (show i < 30 by omega), S.gc (show c < 30 by omega), hc, gi, gc, q1, hl, cond_true, cond_false, bI_ok, bI_er, bV_ok, bV_er, bR_ok, bR_er, bD_ok, bD_er, bF_ok, bF_er, thr_ap, cl_nI, lt_nI, le_nI, eq_nI, m1_lt, nI_m1, m1_nI, nI_lt_m1, add_nI, sub_nI, addm_nI, z_addm, z_subm, mul_nI, fit1_0, fit1_1, fit2_n, HI_wI, HK_wI, HL_wI, HR_wI, ckK_wI, chI_wI, sI_wI, wI_wI, lz0, lz1, lz2, lz3, lz4, lz5, lz6, lz7, lz8, lz9, lz10, lz12, lz13, lz16, lz17, lz20, lz21, lz23, lz26, lz30, lz32, lz35, lz40, lz45, lz48, lz57, lz58, lz59, lz60, lz61, lz63, lz64, lz97, lz99, lz100, lz110, lz111, lz126, lz129, lz132, lz133, lz166, lz169, lz255, lz999, lz1183, lz1800, Nat.reduceAdd, Nat.reduceLT, Nat.reduceEqDiff, Nat.not_lt_zero, Nat.lt_irrefl, ↓reduceIte, Nat.zero_add, Nat.add_zero, ne_eq, not_true_eq_false, not_false_eq_true, reduceCtorEq]
          · by_cases y : c' = c
            · rw [y, hq] at he
              cases he
            · exact (k3 z).2.2 c' (by omega) he
        | true =>
          rw [hq, b2t] at hl
          have hmin : (if g1 c < g1 i then nI (g1 c) else nI (g1 i)) = nI (if g1 c < g1 i then g1 c else g1 i) := by
            split <;> rfl
          have hmn : (if g1 c < g1 i then g1 c else g1 i) < tot A := by split <;> omega
          have hmc : Cn (eR A (f0 242)) i (if g1 c < g1 i then g1 c else g1 i) := by
            split
            · exact (Cn.st hq).tr (k1.2.1 c (by omega)).2
            · exact (k1.2.1 i hi).2
          have hmm : (if g1 c < g1 i then g1 c else g1 i) + 1 + (if g1 c < g1 i then g1 c else g1 i) ≤ g1 i + g1 c := by
            split <;> omega
          generalize hm : (if g1 c < g1 i then g1 c else g1 i) = m at *
          have s1 := sum_ud (g := g1) (v := m) hi
          have s2 := sum_ud (g := ud g1 i m) (i := c) (v := m) (show c < tot A by omega)
          rw [ud_n (show c ≠ i by omega)] at s2
          refine ⟨(u2 (u2 f 249 i (nI m)) 249 c (nI m), ud (ud g1 i m) c m, true), ?_, ⟨fun j hj => ?_, fun j hj => ?_, fun a y ha => ?_⟩, ?_, fun z => by cases z⟩
          · dsimp only
            rw [b2t, e297_47]
            simp (disch := omega) only [S.f, S.gc (show i < 30 by omega), S.gc (show c < 30 by omega), hc, gi, gc, q1, hl, hmin, w2_eq, Nat.succ_ne_self, cond_true, cond_false, bI_ok, bI_er, bV_ok, bV_er, bR_ok, bR_er, bD_ok, bD_er, bF_ok, bF_er, thr_ap, cl_nI, lt_nI, le_nI, eq_nI, m1_lt, nI_m1, m1_nI, nI_lt_m1, add_nI, sub_nI, addm_nI, z_addm, z_subm, mul_nI, fit1_0, fit1_1, fit2_n, HI_wI, HK_wI, HL_wI, HR_wI, ckK_wI, chI_wI, sI_wI, wI_wI, lz0, lz1, lz2, lz3, lz4, lz5, lz6, lz7, lz8, lz9, lz10, lz12, lz13, lz16, lz17, lz20, lz21, lz23, lz26, lz30, lz32, lz35, lz40, lz45, lz48, lz57, lz58, lz59, lz60, lz61, lz63, lz64, lz97, lz99, lz100, lz110, lz111, lz126, lz129, lz132, lz133, lz166, lz169, lz255, lz999, lz1183, lz1800, Nat.reduceAdd, Nat.reduceLT, Nat.reduceEqDiff, Nat.not_lt_zero, Nat.lt_irrefl, ↓reduceIte, Nat.zero_add, Nat.add_zero, ne_eq, not_true_eq_false, not_false_eq_true, reduceCtorEq]
          · dsimp only
            by_cases y : j = c
            · rw [y, w2_eq, ud_e]
            · rw [w2_ne (by omega), ud_n y]
              by_cases y2 : j = i
              · rw [y2, w2_eq, ud_e]
              · rw [w2_ne (by omega), ud_n y2]
                exact k1.1 j hj
          · dsimp only
            by_cases y : j = c
            · rw [y, ud_e]
              exact ⟨hmn, (Cn.st (eR_sy A (f0 242) _ _ hq)).tr hmc⟩
            · rw [ud_n y]
              by_cases y2 : j = i
              · rw [y2, ud_e]
                exact ⟨hmn, hmc⟩
              · rw [ud_n y2]
                exact k1.2.1 j hj
          · dsimp only
            rw [w2_ne (by omega), w2_ne (by omega)]
            exact k1.2.2 a y ha
          · dsimp only
            have := b2n_le ch
            rw [b2t]
            omega)
    dsimp only at e1 l1 l2 l3
    refine ⟨(f', g', ch', .int (nI i)), ?_, l1, l2, fun z => ⟨(l3 z).1, fun a c ha hc he => ?_⟩⟩
    · have e2 : RF 297 35 [.ref 241, .int (nI (b2n ch)), .int (nI i), v] [] (wI h f) = RF 297 47 [.ref 241, .int (nI (b2n ch)), .int (nI i), .int (nI 0)] [] (wI h f) := by
        rw [e297_35]
        simp (disch := omega) only [S.f, S.cw (show 1 < 169 by decide), f1, hi, cond_true, cond_false, bI_ok, bI_er, bV_ok, bV_er, bR_ok, bR_er, bD_ok, bD_er, bF_ok, bF_er, thr_ap, cl_nI, lt_nI, le_nI, eq_nI, m1_lt, nI_m1, m1_nI, nI_lt_m1, add_nI, sub_nI, addm_nI, z_addm, z_subm, mul_nI, fit1_0, fit1_1, fit2_n, HI_wI, HK_wI, HL_wI, HR_wI, ckK_wI, chI_wI, sI_wI, wI_wI, lz0, lz1, lz2, lz3, lz4, lz5, lz6, lz7, lz8, lz9, lz10, lz12, lz13, lz16, lz17, lz20, lz21, lz23, lz26, lz30, lz32, lz35, lz40, lz45, lz48, lz57, lz58, lz59, lz60, lz61, lz63, lz64, lz97, lz99, lz100, lz110, lz111, lz126, lz129, lz132, lz133, lz166, lz169, lz255, lz999, lz1183, lz1800, Nat.reduceAdd, Nat.reduceLT, Nat.reduceEqDiff, Nat.not_lt_zero, Nat.lt_irrefl, ↓reduceIte, Nat.zero_add, Nat.add_zero, ne_eq, not_true_eq_false, not_false_eq_true, reduceCtorEq]
      rw [e2, e1, e297_47]
      simp (disch := omega) only [cond_true, cond_false, bI_ok, bI_er, bV_ok, bV_er, bR_ok, bR_er, bD_ok, bD_er, bF_ok, bF_er, thr_ap, cl_nI, lt_nI, le_nI, eq_nI, m1_lt, nI_m1, m1_nI, nI_lt_m1, add_nI, sub_nI, addm_nI, z_addm, z_subm, mul_nI, fit1_0, fit1_1, fit2_n, HI_wI, HK_wI, HL_wI, HR_wI, ckK_wI, chI_wI, sI_wI, wI_wI, lz0, lz1, lz2, lz3, lz4, lz5, lz6, lz7, lz8, lz9, lz10, lz12, lz13, lz16, lz17, lz20, lz21, lz23, lz26, lz30, lz32, lz35, lz40, lz45, lz48, lz57, lz58, lz59, lz60, lz61, lz63, lz64, lz97, lz99, lz100, lz110, lz111, lz126, lz129, lz132, lz133, lz166, lz169, lz255, lz999, lz1183, lz1800, Nat.reduceAdd, Nat.reduceLT, Nat.reduceEqDiff, Nat.not_lt_zero, Nat.lt_irrefl, ↓reduceIte, Nat.zero_add, Nat.add_zero, ne_eq, not_true_eq_false, not_false_eq_true, reduceCtorEq]
    · by_cases y : a = i
      · rw [y] at he hc ⊢
        exact (l3 z).2.2 c hc he
      · exact (l3 z).2.1 a c (by omega) hc he)
  dsimp only at e1 k1 k2 k3
  have f1 : f' 242 1 = nI (tot A) := (k1.rm R).1.m
  refine ⟨f', g', ch, .int (nI (tot A)), w, ?_, k1, k2, fun z => k3 z⟩
  rw [b2f] at e1
  rw [e1, e297_35]
  simp (disch := omega) only [S.f, S.cw (show 1 < 169 by decide), f1, cond_true, cond_false, bI_ok, bI_er, bV_ok, bV_er, bR_ok, bR_er, bD_ok, bD_er, bF_ok, bF_er, thr_ap, cl_nI, lt_nI, le_nI, eq_nI, m1_lt, nI_m1, m1_nI, nI_lt_m1, add_nI, sub_nI, addm_nI, z_addm, z_subm, mul_nI, fit1_0, fit1_1, fit2_n, HI_wI, HK_wI, HL_wI, HR_wI, ckK_wI, chI_wI, sI_wI, wI_wI, lz0, lz1, lz2, lz3, lz4, lz5, lz6, lz7, lz8, lz9, lz10, lz12, lz13, lz16, lz17, lz20, lz21, lz23, lz26, lz30, lz32, lz35, lz40, lz45, lz48, lz57, lz58, lz59, lz60, lz61, lz63, lz64, lz97, lz99, lz100, lz110, lz111, lz126, lz129, lz132, lz133, lz166, lz169, lz255, lz999, lz1183, lz1800, Nat.reduceAdd, Nat.reduceLT, Nat.reduceEqDiff, Nat.not_lt_zero, Nat.lt_irrefl, ↓reduceIte, Nat.zero_add, Nat.add_zero, ne_eq, not_true_eq_false, not_false_eq_true, reduceCtorEq]
theorem finds_ok (S : MdS h) {f0 : Nat → Nat → Int32} (R : RM (f0 242) A D) : ∃ f' g, CL 297 [.ref 241] (wI h f0) = some (.ok .null, wI h f') ∧ GI (eR A (f0 242)) (tot A) f0 f' g ∧ ∀ i j, i < tot A → j < tot A → Cn (eR A (f0 242)) i j → g i = g j := by
  have m30 := R.m30
  have main : ∀ K f g v w, sumN g (tot A) ≤ K → GI (eR A (f0 242)) (tot A) f0 f g → ∃ f' g', RF 297 27 [.ref 241, .int (nI 1), v, w] [] (wI h f) = some (.ok .null, wI h f') ∧ GI (eR A (f0 242)) (tot A) f0 f' g' ∧ ∀ i j, i < tot A → j < tot A → Cn (eR A (f0 242)) i j → g' i = g' j := by
    intro K
    induction K using Nat.strongRecOn with
    | ind K ih =>
      intro f g v w hK G
      obtain ⟨f1, g1, ch, x, y, e1, k1, k2, k3⟩ := pass_ok S R G w
      have e2 : RF 297 27 [.ref 241, .int (nI 1), v, w] [] (wI h f) = RF 297 35 [.ref 241, .int (nI 0), .int (nI 0), w] [] (wI h f) := by
        rw [e297_27]
        simp (disch := omega) only [Nat.succ_ne_self, cond_true, cond_false, bI_ok, bI_er, bV_ok, bV_er, bR_ok, bR_er, bD_ok, bD_er, bF_ok, bF_er, thr_ap, cl_nI, lt_nI, le_nI, eq_nI, m1_lt, nI_m1, m1_nI, nI_lt_m1, add_nI, sub_nI, addm_nI, z_addm, z_subm, mul_nI, fit1_0, fit1_1, fit2_n, HI_wI, HK_wI, HL_wI, HR_wI, ckK_wI, chI_wI, sI_wI, wI_wI, lz0, lz1, lz2, lz3, lz4, lz5, lz6, lz7, lz8, lz9, lz10, lz12, lz13, lz16, lz17, lz20, lz21, lz23, lz26, lz30, lz32, lz35, lz40, lz45, lz48, lz57, lz58, lz59, lz60, lz61, lz63, lz64, lz97, lz99, lz100, lz110, lz111, lz126, lz129, lz132, lz133, lz166, lz169, lz255, lz999, lz1183, lz1800, Nat.reduceAdd, Nat.reduceLT, Nat.reduceEqDiff, Nat.not_lt_zero, Nat.lt_irrefl, ↓reduceIte, Nat.zero_add, Nat.add_zero, ne_eq, not_true_eq_false, not_false_eq_true, reduceCtorEq]
      rw [e2, e1]
      cases ch with
      | true =>
        rw [b2t] at k2
        exact ih (K - 1) (by omega) f1 g1 x y (by omega) k1
      | false =>
        obtain ⟨z1, z2⟩ := k3 rfl
        refine ⟨f1, g1, ?_, k1, fun i j hi hj hc => ?_⟩
        · rw [b2f, e297_27]
          simp (disch := omega) only [cond_true, cond_false, bI_ok, bI_er, bV_ok, bV_er, bR_ok, bR_er, bD_ok, bD_er, bF_ok, bF_er, thr_ap, cl_nI, lt_nI, le_nI, eq_nI, m1_lt, nI_m1, m1_nI, nI_lt_m1, add_nI, sub_nI, addm_nI, z_addm, z_subm, mul_nI, fit1_0, fit1_1, fit2_n, HI_wI, HK_wI, HL_wI, HR_wI, ckK_wI, chI_wI, sI_wI, wI_wI, lz0, lz1, lz2, lz3, lz4, lz5, lz6, lz7, lz8, lz9, lz10, lz12, lz13, lz16, lz17, lz20, lz21, lz23, lz26, lz30, lz32, lz35, lz40, lz45, lz48, lz57, lz58, lz59, lz60, lz61, lz63, lz64, lz97, lz99, lz100, lz110, lz111, lz126, lz129, lz132, lz133, lz166, lz169, lz255, lz999, lz1183, lz1800, Nat.reduceAdd, Nat.reduceLT, Nat.reduceEqDiff, Nat.not_lt_zero, Nat.lt_irrefl, ↓reduceIte, Nat.zero_add, Nat.add_zero, ne_eq, not_true_eq_false, not_false_eq_true, reduceCtorEq]
        · rw [z1]
          refine hc (fun x => g i = g x) rfl (fun a c hac ha => ha.trans ?_)
          obtain ⟨⟨h1, h2, h3⟩, _⟩ := eR_t hac
          rcases Nat.lt_trichotomy a c with q | q | q
          · exact (z2 c a h2 q (eR_sy A (f0 242) _ _ hac)).symm
          · exact absurd q h3
          · exact z2 a c h1 q hac
  obtain ⟨g0, e1, h1, h2⟩ := lpEx (β := Nat → Nat → Int32) (n := tot A) (x0 := f0) (F := fun i x => RF 297 2 [.ref 241, .int (nI i), .null, .null] [] (wI h x)) (P := fun i x => (∀ k, k < i → x 249 k = nI k) ∧ ∀ a y, a ≠ 249 → x a y = f0 a y) ⟨fun k hk => absurd hk (Nat.not_lt_zero k), fun _ _ _ => rfl⟩ (fun i x hi hP => by
    obtain ⟨p1, p2⟩ := hP
    have x1 : x 242 1 = nI (tot A) := (p2 242 1 (by decide)).trans R.m
    refine ⟨u2 x 249 i (nI i), ?_, fun k hk => ?_, fun a y ha => (w2_ne (by omega)).trans (p2 a y ha)⟩
    · rw [e297_2]
      simp (disch := omega) only [S.f, S.cw (show 1 < 169 by decide), S.gc (show i < 30 by omega), x1, hi, cond_true, cond_false, bI_ok, bI_er, bV_ok, bV_er, bR_ok, bR_er, bD_ok, bD_er, bF_ok, bF_er, thr_ap, cl_nI, lt_nI, le_nI, eq_nI, m1_lt, nI_m1, m1_nI, nI_lt_m1, add_nI, sub_nI, addm_nI, z_addm, z_subm, mul_nI, fit1_0, fit1_1, fit2_n, HI_wI, HK_wI, HL_wI, HR_wI, ckK_wI, chI_wI, sI_wI, wI_wI, lz0, lz1, lz2, lz3, lz4, lz5, lz6, lz7, lz8, lz9, lz10, lz12, lz13, lz16, lz17, lz20, lz21, lz23, lz26, lz30, lz32, lz35, lz40, lz45, lz48, lz57, lz58, lz59, lz60, lz61, lz63, lz64, lz97, lz99, lz100, lz110, lz111, lz126, lz129, lz132, lz133, lz166, lz169, lz255, lz999, lz1183, lz1800, Nat.reduceAdd, Nat.reduceLT, Nat.reduceEqDiff, Nat.not_lt_zero, Nat.lt_irrefl, ↓reduceIte, Nat.zero_add, Nat.add_zero, ne_eq, not_true_eq_false, not_false_eq_true, reduceCtorEq]
    · by_cases q : k = i
      · rw [q]
        exact w2_eq _ _ _ _
      · exact (w2_ne (by omega)).trans (p1 k (by omega)))
  have g01 : g0 242 1 = nI (tot A) := (h2 242 1 (by decide)).trans R.m
  obtain ⟨f', g', k1, k2⟩ := main _ g0 (fun i => i) .null .null (Nat.le_refl _) ⟨h1, fun i hi => ⟨hi, Cn.rf i⟩, h2⟩
  refine ⟨f', g', ?_, k2⟩
  rw [e297]
  refine e1.trans ?_
  rw [← k1, e297_2]
  simp (disch := omega) only [S.f, S.cw (show 1 < 169 by decide), g01, cond_true, cond_false, bI_ok, bI_er, bV_ok, bV_er, bR_ok, bR_er, bD_ok, bD_er, bF_ok, bF_er, thr_ap, cl_nI, lt_nI, le_nI, eq_nI, m1_lt, nI_m1, m1_nI, nI_lt_m1, add_nI, sub_nI, addm_nI, z_addm, z_subm, mul_nI, fit1_0, fit1_1, fit2_n, HI_wI, HK_wI, HL_wI, HR_wI, ckK_wI, chI_wI, sI_wI, wI_wI, lz0, lz1, lz2, lz3, lz4, lz5, lz6, lz7, lz8, lz9, lz10, lz12, lz13, lz16, lz17, lz20, lz21, lz23, lz26, lz30, lz32, lz35, lz40, lz45, lz48, lz57, lz58, lz59, lz60, lz61, lz63, lz64, lz97, lz99, lz100, lz110, lz111, lz126, lz129, lz132, lz133, lz166, lz169, lz255, lz999, lz1183, lz1800, Nat.reduceAdd, Nat.reduceLT, Nat.reduceEqDiff, Nat.not_lt_zero, Nat.lt_irrefl, ↓reduceIte, Nat.zero_add, Nat.add_zero, ne_eq, not_true_eq_false, not_false_eq_true, reduceCtorEq]
theorem eR_lk {g : Nat → Int32} (R : RM g A D) : (∀ i, i < tot A → mk g i < 1000 ∧ 0 < hoA A (mk g i)) ∧ (∀ k, k < 1000 → 0 < hoA A k → ∃ i, i < tot A ∧ mk g i = k) ∧ (∀ i j, eR A g i j = true → mk g i = mk g j ∨ lk1 A (mk g i) (mk g j) = true) ∧ (∀ i j, i < tot A → j < tot A → mk g i = mk g j → Cn (eR A g) i j) ∧ ∀ i j, i < tot A → j < tot A → lk1 A (mk g i) (mk g j) = true → Cn (eR A g) i j := by
  have hsame : ∀ i j, i < tot A → j < tot A → mk g i = mk g j → Cn (eR A g) i j := fun i j hi hj he => by
    by_cases q : i = j
    · rw [q]
      exact Cn.rf j
    · exact Cn.st (eR_of hi hj q (.inl he))
  refine ⟨fun i hi => ⟨(R.b hi).2.1, hoA_pos (R.b hi).1 (R.b hi).2.2.1⟩, fun k hk h0 => ?_, fun i j hij => ?_, hsame, fun i j hi hj he => ?_⟩
  · have hp := hol3_pos.mp h0
    rcases hp with z | z | z
    · obtain ⟨j, j1, j2, j3⟩ := R.ex (by decide) hk z
      exact ⟨j, j1, j3⟩
    · obtain ⟨j, j1, j2, j3⟩ := R.ex (by decide) hk z
      exact ⟨j, j1, j3⟩
    · obtain ⟨j, j1, j2, j3⟩ := R.ex (by decide) hk z
      exact ⟨j, j1, j3⟩
  · obtain ⟨⟨h1, h2, h3⟩, h4⟩ := eR_t hij
    rcases h4 with z | z
    · exact .inl z
    · exact .inr (lk1_of (R.b h1).2.1 (R.b h2).2.1 (lkA_iff.mpr ⟨_, _, (R.b h1).1, (R.b h2).1, z⟩))
  · obtain ⟨⟨h1, h2⟩, h3⟩ := lk1_t he
    obtain ⟨s, o, hs, ho, hp⟩ := lkA_iff.mp h3
    have hd := of_decide_eq_true hp
    obtain ⟨a, a1, a2, a3⟩ := R.ex hs h1 hd.2.1
    obtain ⟨c, c1, c2, c3⟩ := R.ex ho h2 hd.2.2.1
    refine ((hsame i a hi a1 a3.symm).tr (Cn.st (eR_of a1 c1 (fun q => ?_) (.inr ?_)))).tr (hsame c j c1 hj c3)
    · rw [q, c2] at a2
      exact hd.1 a2.symm
    · rw [a2, a3, c2, c3]
      exact hp
theorem groupsM_ok (S : MdS h) (R : RM (HI h 242) A D) : ∃ z f', CL 299 [.ref 241] h = some (.ok (.int (nI z)), wI h f') ∧ CL 300 [.ref 241] h = some (.ok (.int (nI z)), wI h f') ∧ NK A z ∧ z ≤ 30 ∧ f' 241 16 = nI 0 ∧ ∀ a y, a ≠ 249 → ¬(a = 241 ∧ y = 16) → f' a y = HI h a y := by
  have m30 := R.m30
  have R' : RM (u2 (HI h) 241 16 (nI 0) 242) A D := R.thr
  obtain ⟨f', g, k1, k2, k3⟩ := finds_ok S R'
  obtain ⟨q1, q2, q3, q4, q5⟩ := eR_lk R'
  have f1 : f' 242 1 = nI (tot A) := (k2.rm R').1.m
  have hz : sumN (fun i => b2n (decide (g i = i))) (tot A) ≤ tot A := by
    have := sumN_bd (f := fun i => b2n (decide (g i = i))) (n := tot A) (b := 1) (fun k _ => b2n_le _)
    omega
  have hloop : RF 298 13 [.ref 241, .int (nI 0), .int (nI 0)] [] (wI h f') = some (.ok (.int (nI (sumN (fun i => b2n (decide (g i = i))) (tot A)))), wI h f') := by
    refine (lpUp (F := fun i => RF 298 13 [.ref 241, .int (nI (sumN (fun i => b2n (decide (g i = i))) i)), .int (nI i)] [] (wI h f')) (Nat.zero_le (tot A)) (fun i _ hi => ?_)).trans ?_
    · have hg := k2.1 i hi
      have hb := (k2.2.1 i hi).1
      rw [e298_13]
      by_cases q : g i = i
      · rw [q] at hg
        simp (disch := omega) only [S.f, S.cw (show 1 < 169 by decide), S.gc (show i < 30 by omega), f1, hi, hg, q, sumN, decide_true, b2t, cond_true, cond_false, bI_ok, bI_er, bV_ok, bV_er, bR_ok, bR_er, bD_ok, bD_er, bF_ok, bF_er, thr_ap, cl_nI, lt_nI, le_nI, eq_nI, m1_lt, nI_m1, m1_nI, nI_lt_m1, add_nI, sub_nI, addm_nI, z_addm, z_subm, mul_nI, fit1_0, fit1_1, fit2_n, HI_wI, HK_wI, HL_wI, HR_wI, ckK_wI, chI_wI, sI_wI, wI_wI, lz0, lz1, lz2, lz3, lz4, lz5, lz6, lz7, lz8, lz9, lz10, lz12, lz13, lz16, lz17, lz20, lz21, lz23, lz26, lz30, lz32, lz35, lz40, lz45, lz48, lz57, lz58, lz59, lz60, lz61, lz63, lz64, lz97, lz99, lz100, lz110, lz111, lz126, lz129, lz132, lz133, lz166, lz169, lz255, lz999, lz1183, lz1800, Nat.reduceAdd, Nat.reduceLT, Nat.reduceEqDiff, Nat.not_lt_zero, Nat.lt_irrefl, ↓reduceIte, Nat.zero_add, Nat.add_zero, ne_eq, not_true_eq_false, not_false_eq_true, reduceCtorEq]
      · simp (disch := omega) only [S.f, S.cw (show 1 < 169 by decide), S.gc (show i < 30 by omega), f1, hi, hg, q, sumN, decide_false, b2f, cond_true, cond_false, bI_ok, bI_er, bV_ok, bV_er, bR_ok, bR_er, bD_ok, bD_er, bF_ok, bF_er, thr_ap, cl_nI, lt_nI, le_nI, eq_nI, m1_lt, nI_m1, m1_nI, nI_lt_m1, add_nI, sub_nI, addm_nI, z_addm, z_subm, mul_nI, fit1_0, fit1_1, fit2_n, HI_wI, HK_wI, HL_wI, HR_wI, ckK_wI, chI_wI, sI_wI, wI_wI, lz0, lz1, lz2, lz3, lz4, lz5, lz6, lz7, lz8, lz9, lz10, lz12, lz13, lz16, lz17, lz20, lz21, lz23, lz26, lz30, lz32, lz35, lz40, lz45, lz48, lz57, lz58, lz59, lz60, lz61, lz63, lz64, lz97, lz99, lz100, lz110, lz111, lz126, lz129, lz132, lz133, lz166, lz169, lz255, lz999, lz1183, lz1800, Nat.reduceAdd, Nat.reduceLT, Nat.reduceEqDiff, Nat.not_lt_zero, Nat.lt_irrefl, ↓reduceIte, Nat.zero_add, Nat.add_zero, ne_eq, not_true_eq_false, not_false_eq_true, reduceCtorEq]
    · rw [e298_13]
      simp (disch := omega) only [S.f, S.cw (show 1 < 169 by decide), f1, cond_true, cond_false, bI_ok, bI_er, bV_ok, bV_er, bR_ok, bR_er, bD_ok, bD_er, bF_ok, bF_er, thr_ap, cl_nI, lt_nI, le_nI, eq_nI, m1_lt, nI_m1, m1_nI, nI_lt_m1, add_nI, sub_nI, addm_nI, z_addm, z_subm, mul_nI, fit1_0, fit1_1, fit2_n, HI_wI, HK_wI, HL_wI, HR_wI, ckK_wI, chI_wI, sI_wI, wI_wI, lz0, lz1, lz2, lz3, lz4, lz5, lz6, lz7, lz8, lz9, lz10, lz12, lz13, lz16, lz17, lz20, lz21, lz23, lz26, lz30, lz32, lz35, lz40, lz45, lz48, lz57, lz58, lz59, lz60, lz61, lz63, lz64, lz97, lz99, lz100, lz110, lz111, lz126, lz129, lz132, lz133, lz166, lz169, lz255, lz999, lz1183, lz1800, Nat.reduceAdd, Nat.reduceLT, Nat.reduceEqDiff, Nat.not_lt_zero, Nat.lt_irrefl, ↓reduceIte, Nat.zero_add, Nat.add_zero, ne_eq, not_true_eq_false, not_false_eq_true, reduceCtorEq]
  have e : CL 298 [.ref 241] h = some (.ok (.int (nI (sumN (fun i => b2n (decide (g i = i))) (tot A)))), wI h f') := by
    rw [e298]
    simp (disch := omega) only [S.f, k1, hloop, cond_true, cond_false, bI_ok, bI_er, bV_ok, bV_er, bR_ok, bR_er, bD_ok, bD_er, bF_ok, bF_er, thr_ap, cl_nI, lt_nI, le_nI, eq_nI, m1_lt, nI_m1, m1_nI, nI_lt_m1, add_nI, sub_nI, addm_nI, z_addm, z_subm, mul_nI, fit1_0, fit1_1, fit2_n, HI_wI, HK_wI, HL_wI, HR_wI, ckK_wI, chI_wI, sI_wI, wI_wI, lz0, lz1, lz2, lz3, lz4, lz5, lz6, lz7, lz8, lz9, lz10, lz12, lz13, lz16, lz17, lz20, lz21, lz23, lz26, lz30, lz32, lz35, lz40, lz45, lz48, lz57, lz58, lz59, lz60, lz61, lz63, lz64, lz97, lz99, lz100, lz110, lz111, lz126, lz129, lz132, lz133, lz166, lz169, lz255, lz999, lz1183, lz1800, Nat.reduceAdd, Nat.reduceLT, Nat.reduceEqDiff, Nat.not_lt_zero, Nat.lt_irrefl, ↓reduceIte, Nat.zero_add, Nat.add_zero, ne_eq, not_true_eq_false, not_false_eq_true, reduceCtorEq]
  refine ⟨_, f', ?_, ?_, NC_key q1 q2 q3 q4 q5 ⟨g, k2.2.1, k3, rfl⟩, by omega, (k2.2.2 241 16 (by decide)).trans (w2_eq _ _ _ _), fun a y h1 h2 => (k2.2.2 a y h1).trans (w2_ne h2)⟩
  · rw [e299]
    simp (disch := omega) only [S.f, e, cond_true, cond_false, bI_ok, bI_er, bV_ok, bV_er, bR_ok, bR_er, bD_ok, bD_er, bF_ok, bF_er, thr_ap, cl_nI, lt_nI, le_nI, eq_nI, m1_lt, nI_m1, m1_nI, nI_lt_m1, add_nI, sub_nI, addm_nI, z_addm, z_subm, mul_nI, fit1_0, fit1_1, fit2_n, HI_wI, HK_wI, HL_wI, HR_wI, ckK_wI, chI_wI, sI_wI, wI_wI, lz0, lz1, lz2, lz3, lz4, lz5, lz6, lz7, lz8, lz9, lz10, lz12, lz13, lz16, lz17, lz20, lz21, lz23, lz26, lz30, lz32, lz35, lz40, lz45, lz48, lz57, lz58, lz59, lz60, lz61, lz63, lz64, lz97, lz99, lz100, lz110, lz111, lz126, lz129, lz132, lz133, lz166, lz169, lz255, lz999, lz1183, lz1800, Nat.reduceAdd, Nat.reduceLT, Nat.reduceEqDiff, Nat.not_lt_zero, Nat.lt_irrefl, ↓reduceIte, Nat.zero_add, Nat.add_zero, ne_eq, not_true_eq_false, not_false_eq_true, reduceCtorEq]
  · rw [e300]
    simp (disch := omega) only [S.f, e, cond_true, cond_false, bI_ok, bI_er, bV_ok, bV_er, bR_ok, bR_er, bD_ok, bD_er, bF_ok, bF_er, thr_ap, cl_nI, lt_nI, le_nI, eq_nI, m1_lt, nI_m1, m1_nI, nI_lt_m1, add_nI, sub_nI, addm_nI, z_addm, z_subm, mul_nI, fit1_0, fit1_1, fit2_n, HI_wI, HK_wI, HL_wI, HR_wI, ckK_wI, chI_wI, sI_wI, wI_wI, lz0, lz1, lz2, lz3, lz4, lz5, lz6, lz7, lz8, lz9, lz10, lz12, lz13, lz16, lz17, lz20, lz21, lz23, lz26, lz30, lz32, lz35, lz40, lz45, lz48, lz57, lz58, lz59, lz60, lz61, lz63, lz64, lz97, lz99, lz100, lz110, lz111, lz126, lz129, lz132, lz133, lz166, lz169, lz255, lz999, lz1183, lz1800, Nat.reduceAdd, Nat.reduceLT, Nat.reduceEqDiff, Nat.not_lt_zero, Nat.lt_irrefl, ↓reduceIte, Nat.zero_add, Nat.add_zero, ne_eq, not_true_eq_false, not_false_eq_true, reduceCtorEq]
theorem groupSizeM_f (S : MdS h) (R : RM (HI h 242) A D) (x y : Int32) (hbad : inr 97 99 x = false ∨ inr 0 999 y = false) : CL 301 [.ref 241, .int x, .int y] h = some (.ok (.int (nI 0)), tH h 1) := by
  have hf := find_f S R x y hbad
  rw [e301]
  cases q1 : inr 97 99 x with
  | false => simp (disch := omega) only [S.f, hf, m_sf q1, h_fft S, cond_true, cond_false, bI_ok, bI_er, bV_ok, bV_er, bR_ok, bR_er, bD_ok, bD_er, bF_ok, bF_er, thr_ap, cl_nI, lt_nI, le_nI, eq_nI, m1_lt, nI_m1, m1_nI, nI_lt_m1, add_nI, sub_nI, addm_nI, z_addm, z_subm, mul_nI, fit1_0, fit1_1, fit2_n, HI_wI, HK_wI, HL_wI, HR_wI, ckK_wI, chI_wI, sI_wI, wI_wI, lz0, lz1, lz2, lz3, lz4, lz5, lz6, lz7, lz8, lz9, lz10, lz12, lz13, lz16, lz17, lz20, lz21, lz23, lz26, lz30, lz32, lz35, lz40, lz45, lz48, lz57, lz58, lz59, lz60, lz61, lz63, lz64, lz97, lz99, lz100, lz110, lz111, lz126, lz129, lz132, lz133, lz166, lz169, lz255, lz999, lz1183, lz1800, Nat.reduceAdd, Nat.reduceLT, Nat.reduceEqDiff, Nat.not_lt_zero, Nat.lt_irrefl, ↓reduceIte, Nat.zero_add, Nat.add_zero, ne_eq, not_true_eq_false, not_false_eq_true, reduceCtorEq]
  | true =>
    rw [q1] at hbad
    have q2 : inr 0 999 y = false := by
      rcases hbad with z | z
      · cases z
      · exact z
    simp (disch := omega) only [S.f, hf, m_s q1, m_kf q2, h_fft S, Nat.succ_ne_self, cond_true, cond_false, bI_ok, bI_er, bV_ok, bV_er, bR_ok, bR_er, bD_ok, bD_er, bF_ok, bF_er, thr_ap, cl_nI, lt_nI, le_nI, eq_nI, m1_lt, nI_m1, m1_nI, nI_lt_m1, add_nI, sub_nI, addm_nI, z_addm, z_subm, mul_nI, fit1_0, fit1_1, fit2_n, HI_wI, HK_wI, HL_wI, HR_wI, ckK_wI, chI_wI, sI_wI, wI_wI, lz0, lz1, lz2, lz3, lz4, lz5, lz6, lz7, lz8, lz9, lz10, lz12, lz13, lz16, lz17, lz20, lz21, lz23, lz26, lz30, lz32, lz35, lz40, lz45, lz48, lz57, lz58, lz59, lz60, lz61, lz63, lz64, lz97, lz99, lz100, lz110, lz111, lz126, lz129, lz132, lz133, lz166, lz169, lz255, lz999, lz1183, lz1800, Nat.reduceAdd, Nat.reduceLT, Nat.reduceEqDiff, Nat.not_lt_zero, Nat.lt_irrefl, ↓reduceIte, Nat.zero_add, Nat.add_zero, ne_eq, not_true_eq_false, not_false_eq_true, reduceCtorEq]
theorem groupSizeM_n (S : MdS h) (R : RM (HI h 242) A D) {s k : Nat} (hs : s < 3) (hk : k < 1000) (h0 : A s k = 0) : CL 301 [.ref 241, .int (nI (97 + s)), .int (nI k)] h = some (.ok (.int (nI 0)), tH h 2) := by
  have hf := find_n S R hs hk h0
  rw [e301]
  simp (disch := omega) only [S.f, hf, m_s (hs_in hs), m_k (hk_in hk), h_tft S, Nat.succ_ne_self, cond_true, cond_false, bI_ok, bI_er, bV_ok, bV_er, bR_ok, bR_er, bD_ok, bD_er, bF_ok, bF_er, thr_ap, cl_nI, lt_nI, le_nI, eq_nI, m1_lt, nI_m1, m1_nI, nI_lt_m1, add_nI, sub_nI, addm_nI, z_addm, z_subm, mul_nI, fit1_0, fit1_1, fit2_n, HI_wI, HK_wI, HL_wI, HR_wI, ckK_wI, chI_wI, sI_wI, wI_wI, lz0, lz1, lz2, lz3, lz4, lz5, lz6, lz7, lz8, lz9, lz10, lz12, lz13, lz16, lz17, lz20, lz21, lz23, lz26, lz30, lz32, lz35, lz40, lz45, lz48, lz57, lz58, lz59, lz60, lz61, lz63, lz64, lz97, lz99, lz100, lz110, lz111, lz126, lz129, lz132, lz133, lz166, lz169, lz255, lz999, lz1183, lz1800, Nat.reduceAdd, Nat.reduceLT, Nat.reduceEqDiff, Nat.not_lt_zero, Nat.lt_irrefl, ↓reduceIte, Nat.zero_add, Nat.add_zero, ne_eq, not_true_eq_false, not_false_eq_true, reduceCtorEq]
theorem groupSizeM_t (S : MdS h) (R : RM (HI h 242) A D) {s k : Nat} (hs : s < 3) (hk : k < 1000) (h0 : 0 < A s k) : ∃ f', CL 301 [.ref 241, .int (nI (97 + s)), .int (nI k)] h = some (.ok (.int (nI (gsA A k))), wI h f') ∧ f' 241 16 = nI 0 ∧ ∀ a y, a ≠ 249 → ¬(a = 241 ∧ y = 16) → f' a y = HI h a y := by
  have m30 := R.m30
  obtain ⟨w, w1, w2, w3, hf⟩ := find_t S R hs hk h0
  have R' : RM (u2 (HI h) 241 16 (nI 0) 242) A D := R.thr
  have ekk : ∀ j, mk (u2 (HI h) 241 16 (nI 0) 242) j = mk (HI h 242) j := fun j => congrArg (fun x : Int32 => x.toNatClampNeg) (w2_ne (by omega))
  obtain ⟨f', g, k1, k2, k3⟩ := finds_ok S R'
  obtain ⟨q1, q2, q3, q4, q5⟩ := eR_lk R'
  have f1 : f' 242 1 = nI (tot A) := (k2.rm R').1.m
  have ht0 : tH h 0 = wI h (u2 (HI h) 241 16 (nI 0)) := rfl
  have hz : sumN (fun i => b2n (decide (g i = g w))) (tot A) ≤ tot A := by
    have := sumN_bd (f := fun i => b2n (decide (g i = g w))) (n := tot A) (b := 1) (fun k _ => b2n_le _)
    omega
  have hgw := k2.1 w w1
  have hgwb := (k2.2.1 w w1).1
  have hloop : RF 301 56 [.ref 241, .int (nI (97 + s)), .int (nI k), .int (nI w), .int (nI 0), .int (nI 0)] [] (wI h f') = some (.ok (.int (nI (sumN (fun i => b2n (decide (g i = g w))) (tot A)))), wI h f') := by
    refine (lpUp (F := fun i => RF 301 56 [.ref 241, .int (nI (97 + s)), .int (nI k), .int (nI w), .int (nI (sumN (fun i => b2n (decide (g i = g w))) i)), .int (nI i)] [] (wI h f')) (Nat.zero_le (tot A)) (fun i _ hi => ?_)).trans ?_
    · have hg := k2.1 i hi
      have hb := (k2.2.1 i hi).1
      rw [e301_56]
      by_cases q : g i = g w
      · rw [q] at hg
        simp (disch := omega) only [S.f, S.cw (show 1 < 169 by decide), S.gc (show i < 30 by omega), S.gc (show w < 30 by omega), f1, hi, hg, hgw, q, sumN, decide_true, b2t, cond_true, cond_false, bI_ok, bI_er, bV_ok, bV_er, bR_ok, bR_er, bD_ok, bD_er, bF_ok, bF_er, thr_ap, cl_nI, lt_nI, le_nI, eq_nI, m1_lt, nI_m1, m1_nI, nI_lt_m1, add_nI, sub_nI, addm_nI, z_addm, z_subm, mul_nI, fit1_0, fit1_1, fit2_n, HI_wI, HK_wI, HL_wI, HR_wI, ckK_wI, chI_wI, sI_wI, wI_wI, lz0, lz1, lz2, lz3, lz4, lz5, lz6, lz7, lz8, lz9, lz10, lz12, lz13, lz16, lz17, lz20, lz21, lz23, lz26, lz30, lz32, lz35, lz40, lz45, lz48, lz57, lz58, lz59, lz60, lz61, lz63, lz64, lz97, lz99, lz100, lz110, lz111, lz126, lz129, lz132, lz133, lz166, lz169, lz255, lz999, lz1183, lz1800, Nat.reduceAdd, Nat.reduceLT, Nat.reduceEqDiff, Nat.not_lt_zero, Nat.lt_irrefl, ↓reduceIte, Nat.zero_add, Nat.add_zero, ne_eq, not_true_eq_false, not_false_eq_true, reduceCtorEq]
      · simp (disch := omega) only [S.f, S.cw (show 1 < 169 by decide), S.gc (show i < 30 by omega), S.gc (show w < 30 by omega), f1, hi, hg, hgw, q, sumN, decide_false, b2f, cond_true, cond_false, bI_ok, bI_er, bV_ok, bV_er, bR_ok, bR_er, bD_ok, bD_er, bF_ok, bF_er, thr_ap, cl_nI, lt_nI, le_nI, eq_nI, m1_lt, nI_m1, m1_nI, nI_lt_m1, add_nI, sub_nI, addm_nI, z_addm, z_subm, mul_nI, fit1_0, fit1_1, fit2_n, HI_wI, HK_wI, HL_wI, HR_wI, ckK_wI, chI_wI, sI_wI, wI_wI, lz0, lz1, lz2, lz3, lz4, lz5, lz6, lz7, lz8, lz9, lz10, lz12, lz13, lz16, lz17, lz20, lz21, lz23, lz26, lz30, lz32, lz35, lz40, lz45, lz48, lz57, lz58, lz59, lz60, lz61, lz63, lz64, lz97, lz99, lz100, lz110, lz111, lz126, lz129, lz132, lz133, lz166, lz169, lz255, lz999, lz1183, lz1800, Nat.reduceAdd, Nat.reduceLT, Nat.reduceEqDiff, Nat.not_lt_zero, Nat.lt_irrefl, ↓reduceIte, Nat.zero_add, Nat.add_zero, ne_eq, not_true_eq_false, not_false_eq_true, reduceCtorEq]
    · rw [e301_56]
      simp (disch := omega) only [S.f, S.cw (show 1 < 169 by decide), f1, cond_true, cond_false, bI_ok, bI_er, bV_ok, bV_er, bR_ok, bR_er, bD_ok, bD_er, bF_ok, bF_er, thr_ap, cl_nI, lt_nI, le_nI, eq_nI, m1_lt, nI_m1, m1_nI, nI_lt_m1, add_nI, sub_nI, addm_nI, z_addm, z_subm, mul_nI, fit1_0, fit1_1, fit2_n, HI_wI, HK_wI, HL_wI, HR_wI, ckK_wI, chI_wI, sI_wI, wI_wI, lz0, lz1, lz2, lz3, lz4, lz5, lz6, lz7, lz8, lz9, lz10, lz12, lz13, lz16, lz17, lz20, lz21, lz23, lz26, lz30, lz32, lz35, lz40, lz45, lz48, lz57, lz58, lz59, lz60, lz61, lz63, lz64, lz97, lz99, lz100, lz110, lz111, lz126, lz129, lz132, lz133, lz166, lz169, lz255, lz999, lz1183, lz1800, Nat.reduceAdd, Nat.reduceLT, Nat.reduceEqDiff, Nat.not_lt_zero, Nat.lt_irrefl, ↓reduceIte, Nat.zero_add, Nat.add_zero, ne_eq, not_true_eq_false, not_false_eq_true, reduceCtorEq]
  have hsum : sumN (fun i => b2n (decide (g i = g w))) (tot A) = gsA A k := by
    rw [R'.sum (F := fun s' k' => if 0 < A s' k' ∧ cdec (Cn (lk1 A) k k') = true then 1 else 0) (fun i hi => by
      have hb := R'.b hi
      have hiff : g i = g w ↔ cdec (Cn (lk1 A) k (mk (u2 (HI h) 241 16 (nI 0) 242) i)) = true := by
        rw [cdec_t]
        constructor
        · intro z
          have c1 := (k2.2.1 i hi).2
          have c2 := (k2.2.1 w w1).2
          rw [z] at c1
          have := Cn_up q3 (c2.tr (c1.sy (eR_sy A _)))
          rw [ekk w, w3] at this
          exact this
        · intro z
          refine (k3 w i w1 hi (Cn_dn q2 q4 q5 w1 hi ?_)).symm
          rw [ekk w, w3]
          exact z
      by_cases z : g i = g w
      · rw [decide_eq_true z, if_pos ⟨hb.2.2.1, hiff.mp z⟩, b2t]
      · rw [decide_eq_false z, if_neg (fun y => z (hiff.mpr y.2)), b2f]) (fun s' k' _ _ y => if_neg (by omega)), ← sumN_add, ← sumN_add]
    unfold gsA
    refine sumN_eq (fun k' _ => ?_)
    by_cases z : cdec (Cn (lk1 A) k k') = true
    · have e : ∀ x : Nat, (if 0 < x ∧ cdec (Cn (lk1 A) k k') = true then 1 else 0) = b2n (decide (0 < x)) := fun x => by
        by_cases q : 0 < x
        · rw [if_pos ⟨q, z⟩, decide_eq_true q]
          rfl
        · rw [if_neg (fun y => q y.1), decide_eq_false q]
          rfl
      rw [if_pos z, e, e, e]
      rfl
    · rw [if_neg z, if_neg (fun y => z y.2), if_neg (fun y => z y.2), if_neg (fun y => z y.2)]
  rw [hsum] at hloop
  refine ⟨f', ?_, (k2.2.2 241 16 (by decide)).trans (w2_eq _ _ _ _), fun a y h1 h2 => (k2.2.2 a y h1).trans (w2_ne h2)⟩
  rw [e301]
  simp (disch := omega) only [S.f, hf, m_s (hs_in hs), m_k (hk_in hk), h_ttt S, ht0, k1, hloop, Nat.succ_ne_self, cond_true, cond_false, bI_ok, bI_er, bV_ok, bV_er, bR_ok, bR_er, bD_ok, bD_er, bF_ok, bF_er, thr_ap, cl_nI, lt_nI, le_nI, eq_nI, m1_lt, nI_m1, m1_nI, nI_lt_m1, add_nI, sub_nI, addm_nI, z_addm, z_subm, mul_nI, fit1_0, fit1_1, fit2_n, HI_wI, HK_wI, HL_wI, HR_wI, ckK_wI, chI_wI, sI_wI, wI_wI, lz0, lz1, lz2, lz3, lz4, lz5, lz6, lz7, lz8, lz9, lz10, lz12, lz13, lz16, lz17, lz20, lz21, lz23, lz26, lz30, lz32, lz35, lz40, lz45, lz48, lz57, lz58, lz59, lz60, lz61, lz63, lz64, lz97, lz99, lz100, lz110, lz111, lz126, lz129, lz132, lz133, lz166, lz169, lz255, lz999, lz1183, lz1800, Nat.reduceAdd, Nat.reduceLT, Nat.reduceEqDiff, Nat.not_lt_zero, Nat.lt_irrefl, ↓reduceIte, Nat.zero_add, Nat.add_zero, ne_eq, not_true_eq_false, not_false_eq_true, reduceCtorEq]
end GM
