/-! THE CLASS: matching in rounds -/
theorem free_of {E : EF} {m : MF} {n i j : Nat} (L : LR E n) (hm : MT E m) (he : E i j = true) (hml : ml E m i = false) : m i = none := by
  cases hmi : m i with
  | none => rfl
  | some k =>
    rcases (hm i k hmi).2 with z | z
    · rw [ml_of hmi z] at hml
      cases hml
    · have := L.2 i j k he
      rw [z] at this
      cases this
theorem not_ml {E : EF} {m : MF} {i : Nat} (h : m i = none) : ml E m i = false := by
  unfold ml
  rw [h]
theorem Fy.m {f f' : Nat → Nat → Int32} (H : Fy f f') : Fm f f' := fun a x q => H a x (by omega) (by omega) (by omega) (by omega)
/-- if nothing was won, the layers lied -/
theorem IV_no {E : EF} {n dl : Nat} {m ly : MF} {nt : Nat → Nat} (L : LR E n) (hb : LB E m ly (some dl)) (hI : IV E n m ly dl nt) (h0 : ∀ k, ly k = some 0 → nt k = n) : False := by
  have key : ∀ d, d ≤ dl → ∀ l, ly l = some d → nt l = n := by
    intro d
    induction d with
    | zero => exact fun _ l hl => h0 l hl
    | succ d ih =>
      intro hd l hl
      obtain ⟨l0, r0, y1, y2, y3⟩ := hb.2.1 l d hl
      have h1 := ih (by omega) l0 y1
      obtain ⟨i, z1, z2⟩ := hI l0 r0 y2 (by rw [h1]; exact (L.1 _ _ y2).2)
      rw [y3] at z1
      cases z1
      rcases z2 with z2 | z2
      · exact absurd ⟨d, y1, hl, hd⟩ z2
      · exact z2
  obtain ⟨l, r, y1, y2, y3⟩ := hb.2.2 dl rfl
  have h1 := key dl (Nat.le_refl dl) l y1
  obtain ⟨i, z1, _⟩ := hI l r y2 (by rw [h1]; exact (L.1 _ _ y2).2)
  rw [y3] at z1
  cases z1
section MG
variable {h : Hp}
theorem round_ok (S : MgS h) {E : EF} {n dl rd : Nat} {m ly : MF} {f : Nat → Nat → Int32} (L : LR E n) (n30 : n ≤ 30) (h7 : f 227 7 = nI n) (h8 : f 227 8 = nI dl) (hr : ∀ i j, i < n → j < 32 → bt (f 228 i) j = E i j) (hly : ∀ i, i < n → f 232 i = oI (ly i)) (hO : LO E m ly (some dl)) (hM : Ms f n m) (hm : MT E m) (hrd : rd ≤ n) : ∃ m' f' v, RF 121 21 [.ref 227, .int (nI (sumN (fun i => b2n (ml E m i)) n)), .int (nI rd), .int (nI 0)] [] (wI h f) = RF 121 4 [.ref 227, .int (nI (sumN (fun i => b2n (ml E m' i)) n)), .int (nI (rd + 1)), v] [] (wI h f') ∧ Ms f' n m' ∧ MT E m' ∧ sumN (fun i => b2n (ml E m i)) n < sumN (fun i => b2n (ml E m' i)) n ∧ Fy f f' := by
  have hdl : dl < 30 := by
    obtain ⟨l, r, y1, _⟩ := hO.1.2.2 dl rfl
    exact hO.2.1 l dl y1
  have hz : ∀ m : MF, sumN (fun i => b2n (ml E m i)) n ≤ n := fun m => by
    have := sumN_bd (f := fun k => b2n (ml E m k)) (n := n) (b := 1) (fun k _ => b2n_le _)
    omega
  obtain ⟨g0, e1, h1, h2⟩ := lpEx (β := Nat → Nat → Int32) (n := n) (x0 := f) (F := fun i x => RF 121 21 [.ref 227, .int (nI (sumN (fun i => b2n (ml E m i)) n)), .int (nI rd), .int (nI i)] [] (wI h x)) (P := fun i x => (∀ k, k < i → x 233 k = nI 0) ∧ ∀ a y, a ≠ 233 → x a y = f a y) ⟨fun k hk => absurd hk (Nat.not_lt_zero k), fun _ _ _ => rfl⟩ (fun i x hi hP => by
    obtain ⟨p1, p2⟩ := hP
    have x7 : x 227 7 = nI n := (p2 227 7 (by decide)).trans h7
    refine ⟨u2 x 233 i (nI 0), ?_, fun k hk => ?_, fun a y ha => (w2_ne (by omega)).trans (p2 a y ha)⟩
    · rw [e121_21]
      simp (disch := omega) only [S.f, S.c (show i < 30 by omega), x7, hi, cond_true, cond_false, bI_ok, bI_er, bV_ok, bV_er, bR_ok, bR_er, bD_ok, bD_er, bF_ok, bF_er, thr_ap, cl_nI, lt_nI, le_nI, eq_nI, m1_lt, nI_m1, m1_nI, nI_lt_m1, add_nI, sub_nI, addm_nI, z_addm, z_subm, mul_nI, fit1_0, fit1_1, fit2_n, HI_wI, HK_wI, HL_wI, HR_wI, ckK_wI, chI_wI, sI_wI, wI_wI, lz0, lz1, lz2, lz3, lz4, lz5, lz6, lz7, lz8, lz9, lz10, lz12, lz13, lz16, lz17, lz20, lz21, lz23, lz26, lz30, lz32, lz35, lz40, lz45, lz48, lz57, lz58, lz59, lz60, lz61, lz63, lz64, lz97, lz99, lz100, lz110, lz111, lz126, lz129, lz132, lz133, lz166, lz169, lz255, lz999, lz1183, lz1800, Nat.reduceAdd, Nat.reduceLT, Nat.reduceEqDiff, Nat.not_lt_zero, Nat.lt_irrefl, ↓reduceIte, Nat.zero_add, Nat.add_zero, ne_eq, not_true_eq_false, not_false_eq_true, reduceCtorEq]
    · by_cases q : k = i
      · rw [q]
        exact w2_eq _ _ _ _
      · exact (w2_ne (by omega)).trans (p1 k (by omega)))
  have g07 : g0 227 7 = nI n := (h2 227 7 (by decide)).trans h7
  have hzm := hz m
  have e2 : RF 121 21 [.ref 227, .int (nI (sumN (fun i => b2n (ml E m i)) n)), .int (nI rd), .int (nI 0)] [] (wI h f) = RF 121 44 [.ref 227, .int (nI (sumN (fun i => b2n (ml E m i)) n)), .int (nI rd), .int (nI 0)] [] (wI h g0) := by
    rw [e1, e121_21]
    simp (disch := omega) only [S.f, g07, cond_true, cond_false, bI_ok, bI_er, bV_ok, bV_er, bR_ok, bR_er, bD_ok, bD_er, bF_ok, bF_er, thr_ap, cl_nI, lt_nI, le_nI, eq_nI, m1_lt, nI_m1, m1_nI, nI_lt_m1, add_nI, sub_nI, addm_nI, z_addm, z_subm, mul_nI, fit1_0, fit1_1, fit2_n, HI_wI, HK_wI, HL_wI, HR_wI, ckK_wI, chI_wI, sI_wI, wI_wI, lz0, lz1, lz2, lz3, lz4, lz5, lz6, lz7, lz8, lz9, lz10, lz12, lz13, lz16, lz17, lz20, lz21, lz23, lz26, lz30, lz32, lz35, lz40, lz45, lz48, lz57, lz58, lz59, lz60, lz61, lz63, lz64, lz97, lz99, lz100, lz110, lz111, lz126, lz129, lz132, lz133, lz166, lz169, lz255, lz999, lz1183, lz1800, Nat.reduceAdd, Nat.reduceLT, Nat.reduceEqDiff, Nat.not_lt_zero, Nat.lt_irrefl, ↓reduceIte, Nat.zero_add, Nat.add_zero, ne_eq, not_true_eq_false, not_false_eq_true, reduceCtorEq]
  rw [e2]
  obtain ⟨⟨g, m', nt⟩, e3, k1, k2, k3, k4, k5, k6⟩ := lpEx (β := (Nat → Nat → Int32) × MF × (Nat → Nat)) (n := n) (x0 := (g0, m, fun _ => 0)) (F := fun i x => RF 121 44 [.ref 227, .int (nI (sumN (fun i => b2n (ml E x.2.1 i)) n)), .int (nI rd), .int (nI i)] [] (wI h x.1)) (P := fun i x => Ms x.1 n x.2.1 ∧ MT E x.2.1 ∧ Fy f x.1 ∧ NTs x.1 n x.2.2 ∧ (∀ k, i ≤ k → ly k = some 0 → x.2.1 k = none) ∧ ((x.2.1 = m ∧ IV E n m ly dl x.2.2 ∧ ∀ k, k < i → ly k = some 0 → x.2.2 k = n) ∨ sumN (fun i => b2n (ml E m i)) n < sumN (fun i => b2n (ml E x.2.1 i)) n)) ⟨fun i hi => (h2 229 i (by decide)).trans (hM i hi), hm, fun a x q1 q2 q3 q4 => h2 a x q3, fun i hi => ⟨h1 i hi, Nat.zero_le n⟩, fun k _ hk => (hO.1.1.1 k hk).1, .inl ⟨rfl, fun l r _ hlt => absurd hlt (Nat.not_lt_zero r), fun k hk => absurd hk (Nat.not_lt_zero k)⟩⟩ (fun i x hi hP => by
    obtain ⟨g, m', nt⟩ := x
    obtain ⟨k1, k2, k3, k4, k5, k6⟩ := hP
    dsimp only at k1 k2 k3 k4 k5 k6 ⊢
    have g7 : g 227 7 = nI n := (k3 227 7 (by decide) (by decide) (by decide) (by decide)).trans h7
    have g8 : g 227 8 = nI dl := (k3 227 8 (by decide) (by decide) (by decide) (by decide)).trans h8
    have gly : ∀ i, i < n → g 232 i = oI (ly i) := fun i hi => (k3 232 i (by decide) (by decide) (by decide) (by decide)).trans (hly i hi)
    have gr : ∀ i j, i < n → j < 32 → bt (g 228 i) j = E i j := fun i j hi hj => by
      rw [k3 228 i (by decide) (by decide) (by decide) (by decide)]
      exact hr i j hi hj
    have hzm' := hz m'
    have gi := gly i hi
    by_cases q : ly i = some 0
    · rw [q] at gi
      have gi : g 232 i = nI 0 := gi
      have hfree := k5 i (Nat.le_refl i) q
      obtain ⟨j, hj⟩ := (hO.1.1.1 i q).2
      have hD := descend_ok S L n30 g7 g8 hdl gr gly hO.2.1 k1 k2 k4 hfree q ⟨j, hj⟩
      rcases hD with ⟨m2, f', nt', y1, y2, ⟨y3, y4, y5, y6⟩, y7, y8⟩ | ⟨f', nt', y1, y2, y3, y4, y5⟩
      · have hsz : sumN (fun i => b2n (ml E m2 i)) n = sumN (fun i => b2n (ml E m' i)) n + 1 := by
          have := sumN_bump (f := fun k => b2n (ml E m2 k)) (g := fun k => b2n (ml E m' k)) hi (fun k hk hne => by
            rw [y4 k, decide_eq_false hne, Bool.or_false])
          rw [y4 i, decide_eq_true rfl, Bool.or_true, not_ml hfree, b2t, b2f] at this
          omega
        refine ⟨(f', m2, nt'), ?_, y2, y3, fun a x q1 q2 q3 q4 => (y8 a x q1 q2 q3 q4).trans (k3 a x q1 q2 q3 q4), y7, fun k hk hk0 => ?_, .inr ?_⟩
        · dsimp only
          rw [hsz, e121_44]
          simp (disch := omega) only [S.f, S.c (show i < 30 by omega), g7, hi, gi, y1, Nat.succ_ne_self, cond_true, cond_false, bI_ok, bI_er, bV_ok, bV_er, bR_ok, bR_er, bD_ok, bD_er, bF_ok, bF_er, thr_ap, cl_nI, lt_nI, le_nI, eq_nI, m1_lt, nI_m1, m1_nI, nI_lt_m1, add_nI, sub_nI, addm_nI, z_addm, z_subm, mul_nI, fit1_0, fit1_1, fit2_n, HI_wI, HK_wI, HL_wI, HR_wI, ckK_wI, chI_wI, sI_wI, wI_wI, lz0, lz1, lz2, lz3, lz4, lz5, lz6, lz7, lz8, lz9, lz10, lz12, lz13, lz16, lz17, lz20, lz21, lz23, lz26, lz30, lz32, lz35, lz40, lz45, lz48, lz57, lz58, lz59, lz60, lz61, lz63, lz64, lz97, lz99, lz100, lz110, lz111, lz126, lz129, lz132, lz133, lz166, lz169, lz255, lz999, lz1183, lz1800, Nat.reduceAdd, Nat.reduceLT, Nat.reduceEqDiff, Nat.not_lt_zero, Nat.lt_irrefl, ↓reduceIte, Nat.zero_add, Nat.add_zero, ne_eq, not_true_eq_false, not_false_eq_true, reduceCtorEq]
        · dsimp only
          obtain ⟨j', hj'⟩ := (hO.1.1.1 k hk0).2
          refine free_of L y3 hj' ?_
          rw [y4 k, not_ml (k5 k (by omega) hk0), decide_eq_false (by omega)]
          rfl
        · dsimp only
          rw [hsz]
          rcases k6 with ⟨z1, _⟩ | z
          · rw [z1]
            exact Nat.lt_succ_self _
          · omega
      · refine ⟨(f', m', nt'), ?_, y2, k2, fun a x q1 q2 q3 q4 => (y4 a x q1 q2 q3 q4).trans (k3 a x q1 q2 q3 q4), y3, fun k hk => k5 k (by omega), ?_⟩
        · dsimp only
          rw [e121_44]
          simp (disch := omega) only [S.f, S.c (show i < 30 by omega), g7, hi, gi, y1, cond_true, cond_false, bI_ok, bI_er, bV_ok, bV_er, bR_ok, bR_er, bD_ok, bD_er, bF_ok, bF_er, thr_ap, cl_nI, lt_nI, le_nI, eq_nI, m1_lt, nI_m1, m1_nI, nI_lt_m1, add_nI, sub_nI, addm_nI, z_addm, z_subm, mul_nI, fit1_0, fit1_1, fit2_n, HI_wI, HK_wI, HL_wI, HR_wI, ckK_wI, chI_wI, sI_wI, wI_wI, lz0, lz1, lz2, lz3, lz4, lz5, lz6, lz7, lz8, lz9, lz10, lz12, lz13, lz16, lz17, lz20, lz21, lz23, lz26, lz30, lz32, lz35, lz40, lz45, lz48, lz57, lz58, lz59, lz60, lz61, lz63, lz64, lz97, lz99, lz100, lz110, lz111, lz126, lz129, lz132, lz133, lz166, lz169, lz255, lz999, lz1183, lz1800, Nat.reduceAdd, Nat.reduceLT, Nat.reduceEqDiff, Nat.not_lt_zero, Nat.lt_irrefl, ↓reduceIte, Nat.zero_add, Nat.add_zero, ne_eq, not_true_eq_false, not_false_eq_true, reduceCtorEq]
        · rcases k6 with ⟨z1, z2, z3⟩ | z
          · left
            dsimp only
            subst z1
            obtain ⟨w1, w2, w3⟩ := y5 z2
            refine ⟨rfl, w1, fun k hk hk0 => ?_⟩
            by_cases qk : k = i
            · rw [qk]
              exact w2
            · exact w3 k (by omega) (z3 k (by omega) hk0)
          · exact .inr z
    · refine ⟨(g, m', nt), ?_, k1, k2, k3, k4, fun k hk => k5 k (by omega), ?_⟩
      · dsimp only
        rw [e121_44]
        cases hli : ly i with
        | none =>
          rw [hli] at gi
          have gi : g 232 i = -nI 1 := gi
          simp (disch := omega) only [S.f, S.c (show i < 30 by omega), g7, hi, gi, cond_true, cond_false, bI_ok, bI_er, bV_ok, bV_er, bR_ok, bR_er, bD_ok, bD_er, bF_ok, bF_er, thr_ap, cl_nI, lt_nI, le_nI, eq_nI, m1_lt, nI_m1, m1_nI, nI_lt_m1, add_nI, sub_nI, addm_nI, z_addm, z_subm, mul_nI, fit1_0, fit1_1, fit2_n, HI_wI, HK_wI, HL_wI, HR_wI, ckK_wI, chI_wI, sI_wI, wI_wI, lz0, lz1, lz2, lz3, lz4, lz5, lz6, lz7, lz8, lz9, lz10, lz12, lz13, lz16, lz17, lz20, lz21, lz23, lz26, lz30, lz32, lz35, lz40, lz45, lz48, lz57, lz58, lz59, lz60, lz61, lz63, lz64, lz97, lz99, lz100, lz110, lz111, lz126, lz129, lz132, lz133, lz166, lz169, lz255, lz999, lz1183, lz1800, Nat.reduceAdd, Nat.reduceLT, Nat.reduceEqDiff, Nat.not_lt_zero, Nat.lt_irrefl, ↓reduceIte, Nat.zero_add, Nat.add_zero, ne_eq, not_true_eq_false, not_false_eq_true, reduceCtorEq]
        | some d =>
          rw [hli] at gi
          have gi : g 232 i = nI d := gi
          have hd0 : ¬(d = 0) := fun z => q (by rw [hli, z])
          have := hO.2.1 i d hli
          simp (disch := omega) only [S.f, S.c (show i < 30 by omega), g7, hi, gi, hd0, cond_true, cond_false, bI_ok, bI_er, bV_ok, bV_er, bR_ok, bR_er, bD_ok, bD_er, bF_ok, bF_er, thr_ap, cl_nI, lt_nI, le_nI, eq_nI, m1_lt, nI_m1, m1_nI, nI_lt_m1, add_nI, sub_nI, addm_nI, z_addm, z_subm, mul_nI, fit1_0, fit1_1, fit2_n, HI_wI, HK_wI, HL_wI, HR_wI, ckK_wI, chI_wI, sI_wI, wI_wI, lz0, lz1, lz2, lz3, lz4, lz5, lz6, lz7, lz8, lz9, lz10, lz12, lz13, lz16, lz17, lz20, lz21, lz23, lz26, lz30, lz32, lz35, lz40, lz45, lz48, lz57, lz58, lz59, lz60, lz61, lz63, lz64, lz97, lz99, lz100, lz110, lz111, lz126, lz129, lz132, lz133, lz166, lz169, lz255, lz999, lz1183, lz1800, Nat.reduceAdd, Nat.reduceLT, Nat.reduceEqDiff, Nat.not_lt_zero, Nat.lt_irrefl, ↓reduceIte, Nat.zero_add, Nat.add_zero, ne_eq, not_true_eq_false, not_false_eq_true, reduceCtorEq]
      · rcases k6 with ⟨z1, z2, z3⟩ | z
        · left
          refine ⟨z1, z2, fun k hk hk0 => ?_⟩
          by_cases qk : k = i
          · rw [qk] at hk0
            exact absurd hk0 q
          · exact z3 k (by omega) hk0
        · exact .inr z)
  dsimp only at e3 k1 k2 k3 k4 k5 k6
  have g7 : g 227 7 = nI n := (k3 227 7 (by decide) (by decide) (by decide) (by decide)).trans h7
  have hzm' := hz m'
  refine ⟨m', g, .int (nI n), ?_, k1, k2, ?_, k3⟩
  · rw [e3, e121_44]
    simp (disch := omega) only [S.f, g7, cond_true, cond_false, bI_ok, bI_er, bV_ok, bV_er, bR_ok, bR_er, bD_ok, bD_er, bF_ok, bF_er, thr_ap, cl_nI, lt_nI, le_nI, eq_nI, m1_lt, nI_m1, m1_nI, nI_lt_m1, add_nI, sub_nI, addm_nI, z_addm, z_subm, mul_nI, fit1_0, fit1_1, fit2_n, HI_wI, HK_wI, HL_wI, HR_wI, ckK_wI, chI_wI, sI_wI, wI_wI, lz0, lz1, lz2, lz3, lz4, lz5, lz6, lz7, lz8, lz9, lz10, lz12, lz13, lz16, lz17, lz20, lz21, lz23, lz26, lz30, lz32, lz35, lz40, lz45, lz48, lz57, lz58, lz59, lz60, lz61, lz63, lz64, lz97, lz99, lz100, lz110, lz111, lz126, lz129, lz132, lz133, lz166, lz169, lz255, lz999, lz1183, lz1800, Nat.reduceAdd, Nat.reduceLT, Nat.reduceEqDiff, Nat.not_lt_zero, Nat.lt_irrefl, ↓reduceIte, Nat.zero_add, Nat.add_zero, ne_eq, not_true_eq_false, not_false_eq_true, reduceCtorEq]
  · rcases k6 with ⟨z1, z2, z3⟩ | z
    · exfalso
      refine IV_no L hO.1 z2 (fun k hk => ?_)
      obtain ⟨j, hj⟩ := (hO.1.1.1 k hk).2
      exact z3 k (L.1 _ _ hj).1 hk
    · exact z
theorem growR_ok (S : MgS h) {E : EF} {n : Nat} (L : LR E n) (n30 : n ≤ 30) : ∀ (k rd : Nat) (m : MF) (f : Nat → Nat → Int32) (v : Value), rd + k = n + 1 → rd ≤ sumN (fun i => b2n (ml E m i)) n → f 227 7 = nI n → (∀ i j, i < n → j < 32 → bt (f 228 i) j = E i j) → Ms f n m → MT E m → ∃ z f', RF 121 4 [.ref 227, .int (nI (sumN (fun i => b2n (ml E m i)) n)), .int (nI rd), v] [] (wI h f) = some (.ok (.int (nI z)), wI h f') ∧ IX E n z ∧ z ≤ n ∧ Fm f f' := by
  have hz : ∀ m : MF, sumN (fun i => b2n (ml E m i)) n ≤ n := fun m => by
    have := sumN_bd (f := fun k => b2n (ml E m k)) (n := n) (b := 1) (fun k _ => b2n_le _)
    omega
  intro k
  induction k with
  | zero =>
    intro rd m f v hk hrd
    have := hz m
    omega
  | succ k ih =>
    intro rd m f v hk hrd h7 hr hM hm
    have hzm := hz m
    obtain ⟨f1, ly, ll, y1, y2, y3, y4, y5⟩ := layOut_ok S L n30 h7 hr hM hm
    cases ll with
    | none =>
      have y1 : CL 118 [.ref 227] (wI h f) = some (.ok (.int (nI 0)), wI h f1) := y1
      refine ⟨sumN (fun i => b2n (ml E m i)) n, f1, ?_, ⟨m, fun i => (ly i).isSome = true ∨ ∀ j, E i j = false, fun r => ∃ l, (ly l).isSome = true ∧ E l r = true, hm, ⟨fun i j hF he => ?_, fun r hG => ?_⟩, fun i hi => ?_, rfl⟩, hzm, fun a x q => y5 a x (by omega) (by omega) (by omega)⟩
      · rw [e121_4]
        simp (disch := omega) only [S.f, h7, show ¬(n < rd) by omega, y1, cond_true, cond_false, bI_ok, bI_er, bV_ok, bV_er, bR_ok, bR_er, bD_ok, bD_er, bF_ok, bF_er, thr_ap, cl_nI, lt_nI, le_nI, eq_nI, m1_lt, nI_m1, m1_nI, nI_lt_m1, add_nI, sub_nI, addm_nI, z_addm, z_subm, mul_nI, fit1_0, fit1_1, fit2_n, HI_wI, HK_wI, HL_wI, HR_wI, ckK_wI, chI_wI, sI_wI, wI_wI, lz0, lz1, lz2, lz3, lz4, lz5, lz6, lz7, lz8, lz9, lz10, lz12, lz13, lz16, lz17, lz20, lz21, lz23, lz26, lz30, lz32, lz35, lz40, lz45, lz48, lz57, lz58, lz59, lz60, lz61, lz63, lz64, lz97, lz99, lz100, lz110, lz111, lz126, lz129, lz132, lz133, lz166, lz169, lz255, lz999, lz1183, lz1800, Nat.reduceAdd, Nat.reduceLT, Nat.reduceEqDiff, Nat.not_lt_zero, Nat.lt_irrefl, ↓reduceIte, Nat.zero_add, Nat.add_zero, ne_eq, not_true_eq_false, not_false_eq_true, reduceCtorEq]
      · rcases hF with z | z
        · exact ⟨i, z, he⟩
        · rw [z j] at he
          cases he
      · obtain ⟨l, l1, l2⟩ := hG
        obtain ⟨i, i1, i2⟩ := y2.2.2 rfl l r l1 l2
        refine ⟨i, i1, .inl i2, ?_⟩
        rcases (hm r i i1).2 with z | z
        · have := L.2 r i l z
          rw [l2] at this
          cases this
        · exact z
      · by_cases hed : ∃ j, E i j = true
        · obtain ⟨j, hj⟩ := hed
          cases hml : ml E m i with
          | true => exact .inl rfl
          | false =>
            have := y2.1.1.2 i j hj (free_of L hm hj hml)
            exact .inr (.inl (by rw [this]; rfl))
        · refine .inr (.inr (fun j => ?_))
          cases hq : E i j with
          | false => rfl
          | true => exact absurd ⟨j, hq⟩ hed
    | some dl =>
      have y1 : CL 118 [.ref 227] (wI h f) = some (.ok (.int (nI 1)), wI h f1) := y1
      have g7 : f1 227 7 = nI n := (y5 227 7 (by omega) (by decide) (by decide)).trans h7
      obtain ⟨m', f2, w, z1, z2, z3, z4, z5⟩ := round_ok S L n30 (rd := rd) g7 y4 (fun i j hi hj => by rw [y5 228 i (by omega) (by decide) (by decide)]; exact hr i j hi hj) y3 y2 (fun i hi => (y5 229 i (by omega) (by decide) (by decide)).trans (hM i hi)) hm (by omega)
      have hf2 : ∀ a x, ¬(a = 227 ∧ x = 8) → a ≠ 229 → a ≠ 230 → a ≠ 231 → a ≠ 232 → a ≠ 233 → a ≠ 234 → f2 a x = f a x := fun a x q0 q1 q2 q3 q4 q5 q6 => by
        rw [z5 a x q1 q2 q5 q6, y5 a x q0 q3 q4]
      obtain ⟨z, f', x1, x2, x3, x4⟩ := ih (rd + 1) m' f2 w (by omega) (by omega) ((hf2 227 7 (by omega) (by decide) (by decide) (by decide) (by decide) (by decide) (by decide)).trans h7) (fun i j hi hj => by rw [hf2 228 i (by omega) (by decide) (by decide) (by decide) (by decide) (by decide) (by decide)]; exact hr i j hi hj) z2 z3
      refine ⟨z, f', ?_, x2, x3, fun a x q => by rw [x4 a x q, hf2 a x (by omega) (by omega) (by omega) (by omega) (by omega) (by omega) (by omega)]⟩
      rw [← x1, ← z1, e121_4]
      simp (disch := omega) only [S.f, h7, show ¬(n < rd) by omega, y1, Nat.succ_ne_self, cond_true, cond_false, bI_ok, bI_er, bV_ok, bV_er, bR_ok, bR_er, bD_ok, bD_er, bF_ok, bF_er, thr_ap, cl_nI, lt_nI, le_nI, eq_nI, m1_lt, nI_m1, m1_nI, nI_lt_m1, add_nI, sub_nI, addm_nI, z_addm, z_subm, mul_nI, fit1_0, fit1_1, fit2_n, HI_wI, HK_wI, HL_wI, HR_wI, ckK_wI, chI_wI, sI_wI, wI_wI, lz0, lz1, lz2, lz3, lz4, lz5, lz6, lz7, lz8, lz9, lz10, lz12, lz13, lz16, lz17, lz20, lz21, lz23, lz26, lz30, lz32, lz35, lz40, lz45, lz48, lz57, lz58, lz59, lz60, lz61, lz63, lz64, lz97, lz99, lz100, lz110, lz111, lz126, lz129, lz132, lz133, lz166, lz169, lz255, lz999, lz1183, lz1800, Nat.reduceAdd, Nat.reduceLT, Nat.reduceEqDiff, Nat.not_lt_zero, Nat.lt_irrefl, ↓reduceIte, Nat.zero_add, Nat.add_zero, ne_eq, not_true_eq_false, not_false_eq_true, reduceCtorEq]
theorem growRounds_ok (S : MgS h) {E : EF} {n : Nat} {f : Nat → Nat → Int32} (L : LR E n) (n30 : n ≤ 30) (h7 : f 227 7 = nI n) (hr : ∀ i j, i < n → j < 32 → bt (f 228 i) j = E i j) (hM : Ms f n (fun _ => none)) : ∃ z f', CL 121 [.ref 227] (wI h f) = some (.ok (.int (nI z)), wI h f') ∧ IX E n z ∧ z ≤ n ∧ Fm f f' := by
  have hm : MT E (fun _ => none) := fun i j hij => by cases hij
  obtain ⟨z, f', x1, x2⟩ := growR_ok S L n30 (n + 1) 0 (fun _ => none) f .null (by omega) (Nat.zero_le _) h7 hr hM hm
  have h0 : sumN (fun i => b2n (ml E (fun _ => none) i)) n = 0 := sumN_0 (fun i _ => rfl)
  rw [h0] at x1
  refine ⟨z, f', ?_, x2⟩
  rw [e121]
  exact x1
theorem sizeRounds_ok (S : RrS h) (M : MgS h) {A D : AF} {f : Nat → Nat → Int32} (R : RT f 33 A D) {s o : Nat} (hs : s < 3) (ho : o < 3) (hso : s ≠ o) : ∃ z f', CL 122 [.ref 31, .int (nI s), .int (nI o)] (wI h f) = some (.ok (.int (nI z)), wI h f') ∧ MCk (ek A s o 1000) 1000 z ∧ z ≤ 30 ∧ Fm f f' := by
  have n30 := R.n30
  have t1 := (tb33 S).2
  obtain ⟨g, g1, ⟨g2, g3, g4⟩, g5⟩ := load33 S M R hs ho hso
  obtain ⟨z, f', k1, k2, k3, k4⟩ := growRounds_ok M (er_LR A f 33 s o) (by omega) g2 g3 g4
  refine ⟨z, f', ?_, IX_key R hs ho (fun i j => ?_) k2, by omega, g5.trans k4⟩
  · rw [e122]
    simp (disch := omega) only [S.f, S.ks, M.f, t1, g1, k1, cond_true, cond_false, bI_ok, bI_er, bV_ok, bV_er, bR_ok, bR_er, bD_ok, bD_er, bF_ok, bF_er, thr_ap, cl_nI, lt_nI, le_nI, eq_nI, m1_lt, nI_m1, m1_nI, nI_lt_m1, add_nI, sub_nI, addm_nI, z_addm, z_subm, mul_nI, fit1_0, fit1_1, fit2_n, HI_wI, HK_wI, HL_wI, HR_wI, ckK_wI, chI_wI, sI_wI, wI_wI, lz0, lz1, lz2, lz3, lz4, lz5, lz6, lz7, lz8, lz9, lz10, lz12, lz13, lz16, lz17, lz20, lz21, lz23, lz26, lz30, lz32, lz35, lz40, lz45, lz48, lz57, lz58, lz59, lz60, lz61, lz63, lz64, lz97, lz99, lz100, lz110, lz111, lz126, lz129, lz132, lz133, lz166, lz169, lz255, lz999, lz1183, lz1800, Nat.reduceAdd, Nat.reduceLT, Nat.reduceEqDiff, Nat.not_lt_zero, Nat.lt_irrefl, ↓reduceIte, Nat.zero_add, Nat.add_zero, ne_eq, not_true_eq_false, not_false_eq_true, reduceCtorEq]
  · cases hq : er A f 33 s o i j with
    | false => rfl
    | true =>
      have hi := (er_t hq).1.1
      have := R.N.k9 (show i < 30 by omega)
      rw [decide_eq_true (by omega)]
      rfl
theorem layersC_t (S : RrS h) (M : MgS h) {b : Bk} (R : RK (HI h) 32 b) {s o : Nat} (hs : s < 3) (ho : o < 3) (hso : s ≠ o) : ∃ z f', CL 136 [.ref 31, .int (nI (97 + s)), .int (nI (97 + o))] h = some (.ok (.int (nI z)), wI h f') ∧ MCk (ek (kA b) s o 1000) 1000 z ∧ z ≤ 30 ∧ Fm (HI h) f' := by
  have Rt : RT (HI h) 33 (kA b) (kD b) := R.t
  obtain ⟨z, f', k1, k2, k3, k4⟩ := sizeRounds_ok S M Rt hs ho hso
  rw [wI_HI] at k1
  refine ⟨z, f', ?_, k2, k3, k4⟩
  rw [e136]
  simp (disch := omega) only [S.f, rqS_t hs, rqO_t hs ho hso, k1, cond_true, cond_false, bI_ok, bI_er, bV_ok, bV_er, bR_ok, bR_er, bD_ok, bD_er, bF_ok, bF_er, thr_ap, cl_nI, lt_nI, le_nI, eq_nI, m1_lt, nI_m1, m1_nI, nI_lt_m1, add_nI, sub_nI, addm_nI, z_addm, z_subm, mul_nI, fit1_0, fit1_1, fit2_n, HI_wI, HK_wI, HL_wI, HR_wI, ckK_wI, chI_wI, sI_wI, wI_wI, lz0, lz1, lz2, lz3, lz4, lz5, lz6, lz7, lz8, lz9, lz10, lz12, lz13, lz16, lz17, lz20, lz21, lz23, lz26, lz30, lz32, lz35, lz40, lz45, lz48, lz57, lz58, lz59, lz60, lz61, lz63, lz64, lz97, lz99, lz100, lz110, lz111, lz126, lz129, lz132, lz133, lz166, lz169, lz255, lz999, lz1183, lz1800, Nat.reduceAdd, Nat.reduceLT, Nat.reduceEqDiff, Nat.not_lt_zero, Nat.lt_irrefl, ↓reduceIte, Nat.zero_add, Nat.add_zero, ne_eq, not_true_eq_false, not_false_eq_true, reduceCtorEq]
end MG
