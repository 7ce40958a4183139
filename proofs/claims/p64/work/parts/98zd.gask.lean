/-! THE CLASS: groups asked for -/
section GR
variable {h : Hp}
theorem searching_ok (S : GrS h) {E : EF} {n : Nat} {f : Nat → Nat → Int32} (Y : Sy E) (hE : ∀ i j, E i j = true → i < n ∧ j < n ∧ i ≠ j) (n30 : n ≤ 30) (G : GL f n E) : ∃ z f', CL 107 [.ref 235] (wI h f) = some (.ok (.int (nI z)), wI h f') ∧ NC E n z ∧ z ≤ n ∧ ∀ x y, x ≠ 238 → f' x y = f x y := by
  obtain ⟨h7, hb⟩ := G
  have hle : ∀ i, sumN (fun j => b2n (cdec (¬∃ a, a < j ∧ Cn E a j))) i ≤ i := fun i => by
    have := sumN_bd (f := fun j => b2n (cdec (¬∃ a, a < j ∧ Cn E a j))) (n := i) (b := 1) (fun k _ => b2n_le _)
    omega
  obtain ⟨⟨g, m⟩, e1, k1, k2⟩ := lpEx (β := (Nat → Nat → Int32) × Int32) (n := n) (x0 := (f, nI 0)) (F := fun i x => RF 107 6 [.ref 235, .int (nI (sumN (fun j => b2n (cdec (¬∃ a, a < j ∧ Cn E a j))) i)), .int x.2, .int (nI i)] [] (wI h x.1)) (P := fun i x => (∀ j, j < n → (bt x.2 j = true ↔ ∃ a, a < i ∧ Cn E a j)) ∧ ∀ a y, a ≠ 238 → x.1 a y = f a y) ⟨fun j hj => by
    dsimp only
    rw [bt_0]
    exact ⟨fun z => (by cases z), fun ⟨a, ha, _⟩ => absurd ha (Nat.not_lt_zero a)⟩, fun _ _ _ => rfl⟩ (fun i x hi hP => by
    obtain ⟨g, m⟩ := x
    obtain ⟨k1, k2⟩ := hP
    dsimp only at k1 k2 ⊢
    have g7 : g 235 3 = nI n := (k2 235 3 (by decide)).trans h7
    have hl := hle i
    cases hq : bt m i with
    | true =>
      have hx := (k1 i hi).mp hq
      refine ⟨(g, m), ?_, fun j hj => ?_, k2⟩
      · have hs : sumN (fun j => b2n (cdec (¬∃ a, a < j ∧ Cn E a j))) (i + 1) = sumN (fun j => b2n (cdec (¬∃ a, a < j ∧ Cn E a j))) i := by
          show sumN (fun j => b2n (cdec (¬∃ a, a < j ∧ Cn E a j))) i + b2n (cdec (¬∃ a, a < i ∧ Cn E a i)) = _
          rw [cdec_f.mpr (fun z => z hx)]
          rfl
        dsimp only
        rw [hs, e107_6]
        simp (disch := omega) only [S.f, g7, hi, ↓bt_test, hq, Bool.true_eq_false, cond_true, cond_false, bI_ok, bI_er, bV_ok, bV_er, bR_ok, bR_er, bD_ok, bD_er, bF_ok, bF_er, thr_ap, cl_nI, lt_nI, le_nI, eq_nI, m1_lt, nI_m1, m1_nI, nI_lt_m1, add_nI, sub_nI, addm_nI, z_addm, z_subm, mul_nI, fit1_0, fit1_1, fit2_n, HI_wI, HK_wI, HL_wI, HR_wI, ckK_wI, chI_wI, sI_wI, wI_wI, lz0, lz1, lz2, lz3, lz4, lz5, lz6, lz7, lz8, lz9, lz10, lz12, lz13, lz16, lz17, lz20, lz21, lz23, lz26, lz30, lz32, lz35, lz40, lz45, lz48, lz57, lz58, lz59, lz60, lz61, lz63, lz64, lz97, lz99, lz100, lz110, lz111, lz126, lz129, lz132, lz133, lz166, lz169, lz255, lz999, lz1183, lz1800, Nat.reduceAdd, Nat.reduceLT, Nat.reduceEqDiff, Nat.not_lt_zero, Nat.lt_irrefl, ↓reduceIte, Nat.zero_add, Nat.add_zero, ne_eq, not_true_eq_false, not_false_eq_true, reduceCtorEq]
      · dsimp only
        rw [k1 j hj]
        constructor
        · rintro ⟨a, a1, a2⟩
          exact ⟨a, by omega, a2⟩
        · rintro ⟨a, a1, a2⟩
          by_cases z : a = i
          · obtain ⟨b, b1, b2⟩ := hx
            rw [z] at a2
            exact ⟨b, b1, b2.tr a2⟩
          · exact ⟨a, by omega, a2⟩
    | false =>
      have hx : ¬∃ a, a < i ∧ Cn E a i := fun z => by
        rw [(k1 i hi).mpr z] at hq
        cases hq
      obtain ⟨x, f', r1, r2, r3⟩ := reached_ok S hE n30 (f := g) ⟨g7, fun a b ha hb' => by rw [k2 236 a (by decide)]; exact hb a b ha hb'⟩ hi
      refine ⟨(f', m ||| x), ?_, fun j hj => ?_, fun a y q => (r3 a y q).trans (k2 a y q)⟩
      · have hs : sumN (fun j => b2n (cdec (¬∃ a, a < j ∧ Cn E a j))) (i + 1) = sumN (fun j => b2n (cdec (¬∃ a, a < j ∧ Cn E a j))) i + 1 := by
          show sumN (fun j => b2n (cdec (¬∃ a, a < j ∧ Cn E a j))) i + b2n (cdec (¬∃ a, a < i ∧ Cn E a i)) = _
          rw [cdec_t.mpr hx]
          rfl
        dsimp only
        rw [hs, e107_6]
        simp (disch := omega) only [S.f, g7, hi, ↓bt_test, hq, r1, cond_true, cond_false, bI_ok, bI_er, bV_ok, bV_er, bR_ok, bR_er, bD_ok, bD_er, bF_ok, bF_er, thr_ap, cl_nI, lt_nI, le_nI, eq_nI, m1_lt, nI_m1, m1_nI, nI_lt_m1, add_nI, sub_nI, addm_nI, z_addm, z_subm, mul_nI, fit1_0, fit1_1, fit2_n, HI_wI, HK_wI, HL_wI, HR_wI, ckK_wI, chI_wI, sI_wI, wI_wI, lz0, lz1, lz2, lz3, lz4, lz5, lz6, lz7, lz8, lz9, lz10, lz12, lz13, lz16, lz17, lz20, lz21, lz23, lz26, lz30, lz32, lz35, lz40, lz45, lz48, lz57, lz58, lz59, lz60, lz61, lz63, lz64, lz97, lz99, lz100, lz110, lz111, lz126, lz129, lz132, lz133, lz166, lz169, lz255, lz999, lz1183, lz1800, Nat.reduceAdd, Nat.reduceLT, Nat.reduceEqDiff, Nat.not_lt_zero, Nat.lt_irrefl, ↓reduceIte, Nat.zero_add, Nat.add_zero, ne_eq, not_true_eq_false, not_false_eq_true, reduceCtorEq]
      · dsimp only
        rw [bt_or, Bool.or_eq_true, k1 j hj, r2 j (by omega)]
        constructor
        · rintro (⟨a, a1, a2⟩ | z)
          · exact ⟨a, by omega, a2⟩
          · exact ⟨i, by omega, z⟩
        · rintro ⟨a, a1, a2⟩
          by_cases z : a = i
          · rw [z] at a2
            exact .inr a2
          · exact .inl ⟨a, by omega, a2⟩)
  dsimp only at e1 k1 k2
  have g7 : g 235 3 = nI n := (k2 235 3 (by decide)).trans h7
  have hl := hle n
  -- the least of its group
  have hlw : ∀ i, ∃ r, Cn E r i ∧ r ≤ i ∧ ∀ a, a < r → ¬Cn E a i := fun i => by
    obtain ⟨r, r1, r2⟩ := pk_least (fun r => Cn E r i) ⟨i, Cn.rf i⟩
    refine ⟨r, r1, ?_, fun a ha => r2 a ha⟩
    by_cases q : r ≤ i
    · exact q
    · exact absurd (Cn.rf i) (r2 i (by omega))
  have hrep : ∃ rep : Nat → Nat, ∀ i, Cn E (rep i) i ∧ rep i ≤ i ∧ ∀ a, a < rep i → ¬Cn E a i := ⟨fun i => Classical.choose (hlw i), fun i => Classical.choose_spec (hlw i)⟩
  obtain ⟨rep, hrep⟩ := hrep
  refine ⟨sumN (fun j => b2n (cdec (¬∃ a, a < j ∧ Cn E a j))) n, g, ?_, ⟨rep, fun i hi => ⟨by have := (hrep i).2.1; omega, (hrep i).1.sy Y⟩, fun i j hi hj hc => ?_, sumN_eq (fun i hi => ?_)⟩, hl, k2⟩
  · rw [e107]
    refine e1.trans ?_
    rw [e107_6]
    simp (disch := omega) only [S.f, g7, cond_true, cond_false, bI_ok, bI_er, bV_ok, bV_er, bR_ok, bR_er, bD_ok, bD_er, bF_ok, bF_er, thr_ap, cl_nI, lt_nI, le_nI, eq_nI, m1_lt, nI_m1, m1_nI, nI_lt_m1, add_nI, sub_nI, addm_nI, z_addm, z_subm, mul_nI, fit1_0, fit1_1, fit2_n, HI_wI, HK_wI, HL_wI, HR_wI, ckK_wI, chI_wI, sI_wI, wI_wI, lz0, lz1, lz2, lz3, lz4, lz5, lz6, lz7, lz8, lz9, lz10, lz12, lz13, lz16, lz17, lz20, lz21, lz23, lz26, lz30, lz32, lz35, lz40, lz45, lz48, lz57, lz58, lz59, lz60, lz61, lz63, lz64, lz97, lz99, lz100, lz110, lz111, lz126, lz129, lz132, lz133, lz166, lz169, lz255, lz999, lz1183, lz1800, Nat.reduceAdd, Nat.reduceLT, Nat.reduceEqDiff, Nat.not_lt_zero, Nat.lt_irrefl, ↓reduceIte, Nat.zero_add, Nat.add_zero, ne_eq, not_true_eq_false, not_false_eq_true, reduceCtorEq]
  · rcases Nat.lt_trichotomy (rep i) (rep j) with z | z | z
    · exact absurd ((hrep i).1.tr hc) ((hrep j).2.2 _ z)
    · exact z
    · exact absurd ((hrep j).1.tr (hc.sy Y)) ((hrep i).2.2 _ z)
  · by_cases q : rep i = i
    · rw [decide_eq_true q, cdec_t.mpr (fun ⟨a, a1, a2⟩ => (hrep i).2.2 a (by omega) a2)]
    · rw [decide_eq_false q, cdec_f.mpr (fun z => z ⟨rep i, by have := (hrep i).2.1; omega, (hrep i).1⟩)]
theorem grE_h {A : AF} {f : Nat → Nat → Int32} {t : Nat} : ∀ i j, grE A f t i j = true → i < tn f t ∧ j < tn f t ∧ i ≠ j := fun i j hij => by
  obtain ⟨h1, h2⟩ := (grE_t hij).1
  refine ⟨h1, h2, fun q => ?_⟩
  rw [q, grE_ir] at hij
  cases hij
theorem row_of {A D : AF} {f : Nat → Nat → Int32} {t : Nat} (R : RT f t A D) {k : Nat} (hk : k < 1000) (h0 : 0 < hoA A k) : ∃ r, r < tn f t ∧ tk f t r = k := by
  have hp := hol3_pos.mp h0
  rcases hp with z | z | z
  · obtain ⟨r, r1, r2, _⟩ := rr_some R (by decide) hk z
    exact ⟨r, r1, r2⟩
  · obtain ⟨r, r1, r2, _⟩ := rr_some R (by decide) hk z
    exact ⟨r, r1, r2⟩
  · obtain ⟨r, r1, r2, _⟩ := rr_some R (by decide) hk z
    exact ⟨r, r1, r2⟩
theorem ho_row {A D : AF} {f : Nat → Nat → Int32} {t : Nat} (R : RT f t A D) {r : Nat} (hr : r < tn f t) : 0 < hoA A (tk f t r) := by
  unfold hoA
  rw [R.a (by decide) hr, R.a (by decide) hr, R.a (by decide) hr]
  exact R.ne hr
theorem grE_lk {A D : AF} {f : Nat → Nat → Int32} {t : Nat} (R : RT f t A D) : (∀ i, i < tn f t → tk f t i < 1000 ∧ 0 < hoA A (tk f t i)) ∧ (∀ k, k < 1000 → 0 < hoA A k → ∃ i, i < tn f t ∧ tk f t i = k) ∧ (∀ i j, grE A f t i j = true → tk f t i = tk f t j ∨ lk1 A (tk f t i) (tk f t j) = true) ∧ (∀ i j, i < tn f t → j < tn f t → tk f t i = tk f t j → Cn (grE A f t) i j) ∧ ∀ i j, i < tn f t → j < tn f t → lk1 A (tk f t i) (tk f t j) = true → Cn (grE A f t) i j := by
  have n30 := R.n30
  have hk : ∀ i, i < tn f t → tk f t i < 1000 := fun i hi => R.N.k9 (by omega)
  refine ⟨fun i hi => ⟨hk i hi, ho_row R hi⟩, fun k h1 h2 => row_of R h1 h2, fun i j hij => ?_, fun i j hi hj he => ?_, fun i j hi hj he => ?_⟩
  · obtain ⟨⟨h1, h2⟩, h3⟩ := grE_t hij
    exact .inr (lk1_of (hk i h1) (hk j h2) h3)
  · rw [R.inj hi hj he]
    exact Cn.rf j
  · refine Cn.st ?_
    unfold grE
    rw [decide_eq_true ⟨hi, hj⟩, (lk1_t he).2]
    rfl
theorem RrS.g (S : RrS h) : HR h 31 6 = 235 := S.f.2.2.2.2.2.2.2.1
theorem Fg.t {f f' : Nat → Nat → Int32} (H : Fg f f') {A D : AF} (R : RT f 33 A D) : RT f' 33 A D := R.cong (fun i x hi => H (33 + i) x (by omega))
theorem gl33 (S : RrS h) (M : GrS h) {A D : AF} {f : Nat → Nat → Int32} (R : RT f 33 A D) : ∃ f', CL 101 [.ref 235, .ref 33] (wI h f) = some (.ok .null, wI h f') ∧ GL f' (tn f 33) (grE A f 33) ∧ Fg f f' := by
  obtain ⟨f', h1, h2, h3⟩ := gload_ok M (tb33 S).1 R (by decide)
  exact ⟨f', h1, h2, fun a x q => h3 a x (by omega) (by omega)⟩
theorem groupsC_ok (S : RrS h) (M : GrS h) {b : Bk} (R : RK (HI h) 32 b) : (∃ z f', CL 105 [.ref 31] h = some (.ok (.int (nI z)), wI h f') ∧ NK (kA b) z ∧ z ≤ 30 ∧ Fg (HI h) f') ∧ ∃ z f', CL 108 [.ref 31] h = some (.ok (.int (nI z)), wI h f') ∧ NK (kA b) z ∧ z ≤ 30 ∧ Fg (HI h) f' := by
  have Rt : RT (HI h) 33 (kA b) (kD b) := R.t
  have n30 := Rt.n30
  have t1 := (tb33 S).2
  obtain ⟨g, g1, g2, g3⟩ := gl33 S M Rt
  rw [wI_HI] at g1
  obtain ⟨q1, q2, q3, q4, q5⟩ := grE_lk Rt
  obtain ⟨z, f', u1', u2', u3', u4'⟩ := uniting_ok M (grE_sy (kA b) (HI h) 33) grE_h (by omega) g2
  obtain ⟨z', f2, v1, v2, v3, v4⟩ := searching_ok M (grE_sy (kA b) (HI h) 33) grE_h (by omega) g2
  refine ⟨⟨z, f', ?_, NC_key q1 q2 q3 q4 q5 u2', by omega, fun a x q => by rw [u4' a x (by omega), g3 a x q]⟩, z', f2, ?_, NC_key q1 q2 q3 q4 q5 v2, by omega, fun a x q => by rw [v4 a x (by omega), g3 a x q]⟩
  · rw [e105]
    simp (disch := omega) only [S.f, S.ks, M.f, t1, g1, u1', cond_true, cond_false, bI_ok, bI_er, bV_ok, bV_er, bR_ok, bR_er, bD_ok, bD_er, bF_ok, bF_er, thr_ap, cl_nI, lt_nI, le_nI, eq_nI, m1_lt, nI_m1, m1_nI, nI_lt_m1, add_nI, sub_nI, addm_nI, z_addm, z_subm, mul_nI, fit1_0, fit1_1, fit2_n, HI_wI, HK_wI, HL_wI, HR_wI, ckK_wI, chI_wI, sI_wI, wI_wI, lz0, lz1, lz2, lz3, lz4, lz5, lz6, lz7, lz8, lz9, lz10, lz12, lz13, lz16, lz17, lz20, lz21, lz23, lz26, lz30, lz32, lz35, lz40, lz45, lz48, lz57, lz58, lz59, lz60, lz61, lz63, lz64, lz97, lz99, lz100, lz110, lz111, lz126, lz129, lz132, lz133, lz166, lz169, lz255, lz999, lz1183, lz1800, Nat.reduceAdd, Nat.reduceLT, Nat.reduceEqDiff, Nat.not_lt_zero, Nat.lt_irrefl, ↓reduceIte, Nat.zero_add, Nat.add_zero, ne_eq, not_true_eq_false, not_false_eq_true, reduceCtorEq]
  · rw [e108]
    simp (disch := omega) only [S.f, S.ks, M.f, t1, g1, v1, cond_true, cond_false, bI_ok, bI_er, bV_ok, bV_er, bR_ok, bR_er, bD_ok, bD_er, bF_ok, bF_er, thr_ap, cl_nI, lt_nI, le_nI, eq_nI, m1_lt, nI_m1, m1_nI, nI_lt_m1, add_nI, sub_nI, addm_nI, z_addm, z_subm, mul_nI, fit1_0, fit1_1, fit2_n, HI_wI, HK_wI, HL_wI, HR_wI, ckK_wI, chI_wI, sI_wI, wI_wI, lz0, lz1, lz2, lz3, lz4, lz5, lz6, lz7, lz8, lz9, lz10, lz12, lz13, lz16, lz17, lz20, lz21, lz23, lz26, lz30, lz32, lz35, lz40, lz45, lz48, lz57, lz58, lz59, lz60, lz61, lz63, lz64, lz97, lz99, lz100, lz110, lz111, lz126, lz129, lz132, lz133, lz166, lz169, lz255, lz999, lz1183, lz1800, Nat.reduceAdd, Nat.reduceLT, Nat.reduceEqDiff, Nat.not_lt_zero, Nat.lt_irrefl, ↓reduceIte, Nat.zero_add, Nat.add_zero, ne_eq, not_true_eq_false, not_false_eq_true, reduceCtorEq]
/-- the records of the group of a key -/
noncomputable def gsA (A : AF) (k0 : Nat) : Nat := sumN (fun k => if cdec (Cn (lk1 A) k0 k) = true then hoA A k else 0) 1000
theorem recordsIn_ok {t : Nat} {A D : AF} {f : Nat → Nat → Int32} (T : TbS h t) (R : RT f t A D) (x : Int32) : CL 109 [.ref t, .int x] (wI h f) = some (.ok (.int (nI (sumN (fun r => if bt x r = true then hol3 (ta f t 0 r) (ta f t 1 r) (ta f t 2 r) else 0) (tn f t)))), wI h f) := by
  have n30 := R.n30
  rw [e109]
  refine (lpUp (F := fun i => RF 109 4 [.ref t, .int x, .int (nI (sumN (fun r => if bt x r = true then hol3 (ta f t 0 r) (ta f t 1 r) (ta f t 2 r) else 0) i)), .int (nI i)] [] (wI h f)) (Nat.zero_le (tn f t)) (fun r _ hr => ?_)).trans ?_
  · have hh := holdersAt_ok (T.wI f) R.N (r := r) (by omega)
    rw [HI_wI] at hh
    have he : sumN (fun s => b2n (decide (0 < ta f t s r))) 3 = hol3 (ta f t 0 r) (ta f t 1 r) (ta f t 2 r) := by
      simp only [sumN, hol3, Nat.zero_add]
    rw [he] at hh
    rw [e109_4]
    cases hq : bt x r with
    | true => simp (disch := omega) only [T.f, R.N.n, hr, ↓bt_test, hq, hh, sumN, Bool.true_eq_false, cond_true, cond_false, bI_ok, bI_er, bV_ok, bV_er, bR_ok, bR_er, bD_ok, bD_er, bF_ok, bF_er, thr_ap, cl_nI, lt_nI, le_nI, eq_nI, m1_lt, nI_m1, m1_nI, nI_lt_m1, add_nI, sub_nI, addm_nI, z_addm, z_subm, mul_nI, fit1_0, fit1_1, fit2_n, HI_wI, HK_wI, HL_wI, HR_wI, ckK_wI, chI_wI, sI_wI, wI_wI, lz0, lz1, lz2, lz3, lz4, lz5, lz6, lz7, lz8, lz9, lz10, lz12, lz13, lz16, lz17, lz20, lz21, lz23, lz26, lz30, lz32, lz35, lz40, lz45, lz48, lz57, lz58, lz59, lz60, lz61, lz63, lz64, lz97, lz99, lz100, lz110, lz111, lz126, lz129, lz132, lz133, lz166, lz169, lz255, lz999, lz1183, lz1800, Nat.reduceAdd, Nat.reduceLT, Nat.reduceEqDiff, Nat.not_lt_zero, Nat.lt_irrefl, ↓reduceIte, Nat.zero_add, Nat.add_zero, ne_eq, not_true_eq_false, not_false_eq_true, reduceCtorEq]
    | false => simp (disch := omega) only [T.f, R.N.n, hr, ↓bt_test, hq, sumN, Bool.false_eq_true, cond_true, cond_false, bI_ok, bI_er, bV_ok, bV_er, bR_ok, bR_er, bD_ok, bD_er, bF_ok, bF_er, thr_ap, cl_nI, lt_nI, le_nI, eq_nI, m1_lt, nI_m1, m1_nI, nI_lt_m1, add_nI, sub_nI, addm_nI, z_addm, z_subm, mul_nI, fit1_0, fit1_1, fit2_n, HI_wI, HK_wI, HL_wI, HR_wI, ckK_wI, chI_wI, sI_wI, wI_wI, lz0, lz1, lz2, lz3, lz4, lz5, lz6, lz7, lz8, lz9, lz10, lz12, lz13, lz16, lz17, lz20, lz21, lz23, lz26, lz30, lz32, lz35, lz40, lz45, lz48, lz57, lz58, lz59, lz60, lz61, lz63, lz64, lz97, lz99, lz100, lz110, lz111, lz126, lz129, lz132, lz133, lz166, lz169, lz255, lz999, lz1183, lz1800, Nat.reduceAdd, Nat.reduceLT, Nat.reduceEqDiff, Nat.not_lt_zero, Nat.lt_irrefl, ↓reduceIte, Nat.zero_add, Nat.add_zero, ne_eq, not_true_eq_false, not_false_eq_true, reduceCtorEq]
  · rw [e109_4]
    simp (disch := omega) only [T.f, R.N.n, cond_true, cond_false, bI_ok, bI_er, bV_ok, bV_er, bR_ok, bR_er, bD_ok, bD_er, bF_ok, bF_er, thr_ap, cl_nI, lt_nI, le_nI, eq_nI, m1_lt, nI_m1, m1_nI, nI_lt_m1, add_nI, sub_nI, addm_nI, z_addm, z_subm, mul_nI, fit1_0, fit1_1, fit2_n, HI_wI, HK_wI, HL_wI, HR_wI, ckK_wI, chI_wI, sI_wI, wI_wI, lz0, lz1, lz2, lz3, lz4, lz5, lz6, lz7, lz8, lz9, lz10, lz12, lz13, lz16, lz17, lz20, lz21, lz23, lz26, lz30, lz32, lz35, lz40, lz45, lz48, lz57, lz58, lz59, lz60, lz61, lz63, lz64, lz97, lz99, lz100, lz110, lz111, lz126, lz129, lz132, lz133, lz166, lz169, lz255, lz999, lz1183, lz1800, Nat.reduceAdd, Nat.reduceLT, Nat.reduceEqDiff, Nat.not_lt_zero, Nat.lt_irrefl, ↓reduceIte, Nat.zero_add, Nat.add_zero, ne_eq, not_true_eq_false, not_false_eq_true, reduceCtorEq]
theorem groupSizeC_t (S : RrS h) (M : GrS h) {b : Bk} (R : RK (HI h) 32 b) {s k : Nat} (hs : s < 3) (hk : k < 1000) (h0 : 0 < kA b s k) : ∃ f', CL 110 [.ref 31, .int (nI (97 + s)), .int (nI k)] h = some (.ok (.int (nI (gsA (kA b) k))), wI h f') ∧ Fg (HI h) f' := by
  have Rt : RT (HI h) 33 (kA b) (kD b) := R.t
  have n30 := Rt.n30
  have t1 := (tb33 S).2
  have T := (tb33 S).1
  obtain ⟨r, r1, r2, r3, r4⟩ := rqRec_t S.qs R hs hk h0
  have r1 : r < tn (HI h) 33 := r1
  have r2 : tk (HI h) 33 r = k := r2
  obtain ⟨g, g1, g2, g3⟩ := gl33 S M Rt
  rw [wI_HI] at g1
  obtain ⟨q1, q2, q3, q4, q5⟩ := grE_lk Rt
  obtain ⟨x, f', v1, v2, v3⟩ := reached_ok M grE_h (by omega) g2 r1
  have F2 : Fg (HI h) f' := fun a x q => by rw [v3 a x (by omega), g3 a x q]
  have R2 := F2.t Rt
  have hrec := recordsIn_ok T R2 x
  have e1 : tn f' 33 = tn (HI h) 33 := rd_cg (F2 33 3 (by omega))
  have e2 : ∀ s, s < 3 → ∀ r, ta f' 33 s r = ta (HI h) 33 s r := fun s hs r => rd_cg (F2 _ r (by omega))
  have hsum : sumN (fun r => if bt x r = true then hol3 (ta f' 33 0 r) (ta f' 33 1 r) (ta f' 33 2 r) else 0) (tn f' 33) = gsA (kA b) k := by
    rw [e1]
    unfold gsA
    refine Rt.sum (fun i hi => ?_) (fun k' _ h0 h1 h2 => ?_)
    · rw [e2 0 (by decide), e2 1 (by decide), e2 2 (by decide)]
      have hh : hol3 (ta (HI h) 33 0 i) (ta (HI h) 33 1 i) (ta (HI h) 33 2 i) = hoA (kA b) (tk (HI h) 33 i) := by
        unfold hoA
        rw [Rt.a (by decide) hi, Rt.a (by decide) hi, Rt.a (by decide) hi]
      rw [hh]
      have hiff : bt x i = true ↔ cdec (Cn (lk1 (kA b)) k (tk (HI h) 33 i)) = true := by
        rw [v2 i (by omega), cdec_t]
        constructor
        · intro z
          have := Cn_up q3 z
          rw [r2] at this
          exact this
        · intro z
          refine Cn_dn q2 q4 q5 r1 hi ?_
          rw [r2]
          exact z
      by_cases z : bt x i = true
      · rw [if_pos z, if_pos (hiff.mp z)]
      · rw [if_neg z, if_neg (fun w => z (hiff.mpr w))]
    · have : hoA (kA b) k' = 0 := by
        unfold hoA
        rw [h0, h1, h2]
        rfl
      rw [this]
      split <;> rfl
  rw [hsum] at hrec
  refine ⟨f', ?_, F2⟩
  rw [e110]
  simp (disch := omega) only [S.f, S.ks, M.f, T.f, t1, r4, g1, v1, hrec, cond_true, cond_false, bI_ok, bI_er, bV_ok, bV_er, bR_ok, bR_er, bD_ok, bD_er, bF_ok, bF_er, thr_ap, cl_nI, lt_nI, le_nI, eq_nI, m1_lt, nI_m1, m1_nI, nI_lt_m1, add_nI, sub_nI, addm_nI, z_addm, z_subm, mul_nI, fit1_0, fit1_1, fit2_n, HI_wI, HK_wI, HL_wI, HR_wI, ckK_wI, chI_wI, sI_wI, wI_wI, lz0, lz1, lz2, lz3, lz4, lz5, lz6, lz7, lz8, lz9, lz10, lz12, lz13, lz16, lz17, lz20, lz21, lz23, lz26, lz30, lz32, lz35, lz40, lz45, lz48, lz57, lz58, lz59, lz60, lz61, lz63, lz64, lz97, lz99, lz100, lz110, lz111, lz126, lz129, lz132, lz133, lz166, lz169, lz255, lz999, lz1183, lz1800, Nat.reduceAdd, Nat.reduceLT, Nat.reduceEqDiff, Nat.not_lt_zero, Nat.lt_irrefl, ↓reduceIte, Nat.zero_add, Nat.add_zero, ne_eq, not_true_eq_false, not_false_eq_true, reduceCtorEq]
theorem groupSizeC_f (S : RrS h) {b : Bk} (R : RK (HI h) 32 b) (x k : Int32) (hx : inr 97 99 x = false ∨ inr 0 999 k = false) : CL 110 [.ref 31, .int x, .int k] h = some (.error 1, hthr h) := by
  rw [e110]
  simp only [S.f, rqRec_f x k hx, cond_true, cond_false, bI_ok, bI_er, bV_ok, bV_er, bR_ok, bR_er, bD_ok, bD_er, bF_ok, bF_er, thr_ap, cl_nI, lt_nI, le_nI, eq_nI, m1_lt, nI_m1, m1_nI, nI_lt_m1, add_nI, sub_nI, addm_nI, z_addm, z_subm, mul_nI, fit1_0, fit1_1, fit2_n, HI_wI, HK_wI, HL_wI, HR_wI, ckK_wI, chI_wI, sI_wI, wI_wI, lz0, lz1, lz2, lz3, lz4, lz5, lz6, lz7, lz8, lz9, lz10, lz12, lz13, lz16, lz17, lz20, lz21, lz23, lz26, lz30, lz32, lz35, lz40, lz45, lz48, lz57, lz58, lz59, lz60, lz61, lz63, lz64, lz97, lz99, lz100, lz110, lz111, lz126, lz129, lz132, lz133, lz166, lz169, lz255, lz999, lz1183, lz1800, Nat.reduceAdd, Nat.reduceLT, Nat.reduceEqDiff, Nat.not_lt_zero, Nat.lt_irrefl, ↓reduceIte, Nat.zero_add, Nat.add_zero, ne_eq, not_true_eq_false, not_false_eq_true, reduceCtorEq]
theorem groupSizeC_n (S : RrS h) {b : Bk} (R : RK (HI h) 32 b) {s k : Nat} (hs : s < 3) (hk : k < 1000) (h0 : kA b s k = 0) : CL 110 [.ref 31, .int (nI (97 + s)), .int (nI k)] h = some (.error 4, hthr h) := by
  rw [e110]
  simp only [S.f, rqRec_n S.qs R hs hk h0, cond_true, cond_false, bI_ok, bI_er, bV_ok, bV_er, bR_ok, bR_er, bD_ok, bD_er, bF_ok, bF_er, thr_ap, cl_nI, lt_nI, le_nI, eq_nI, m1_lt, nI_m1, m1_nI, nI_lt_m1, add_nI, sub_nI, addm_nI, z_addm, z_subm, mul_nI, fit1_0, fit1_1, fit2_n, HI_wI, HK_wI, HL_wI, HR_wI, ckK_wI, chI_wI, sI_wI, wI_wI, lz0, lz1, lz2, lz3, lz4, lz5, lz6, lz7, lz8, lz9, lz10, lz12, lz13, lz16, lz17, lz20, lz21, lz23, lz26, lz30, lz32, lz35, lz40, lz45, lz48, lz57, lz58, lz59, lz60, lz61, lz63, lz64, lz97, lz99, lz100, lz110, lz111, lz126, lz129, lz132, lz133, lz166, lz169, lz255, lz999, lz1183, lz1800, Nat.reduceAdd, Nat.reduceLT, Nat.reduceEqDiff, Nat.not_lt_zero, Nat.lt_irrefl, ↓reduceIte, Nat.zero_add, Nat.add_zero, ne_eq, not_true_eq_false, not_false_eq_true, reduceCtorEq]
end GR
