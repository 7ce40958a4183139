/-! THE REFERENCE: matchingSize, isNeeded -/
section MM
variable {h : Hp} {A D : AF} {b : Bk}
theorem augOut_ok (S : MdS h) {s o w st : Nat} {m : MF} {f : Nat → Nat → Int32} (R : RM (f 242) A D) (hso : s ≠ o) (ho : o < 3) (hm : MT (eM A (f 242) s o w) m) (hs0 : ms (f 242) st = s ∧ mk (f 242) st ≠ w) (hst : ∀ j, eM A (f 242) s o w st j = true → m st = none) : ∀ (k p : Nat), p + k = tot A → ∀ q rb sn g T v z, PM (eM A (f 242) s o w) (tot A) m st f p q rb sn g T → p ≤ T → Q2 h (eM A (f 242) s o w) (tot A) m st f (RF 289 37 [.ref 241, .int (nI st), .int (nI (97 + o)), .int (nI T), .int (nI p), v, z] [] (wI h g)) := by
  have L := eM_LR A (f 242) hso w
  have n30 := R.m30
  have hend : ∀ p q rb sn g T v z, PM (eM A (f 242) s o w) (tot A) m st f p q rb sn g T → p = T → Q2 h (eM A (f 242) s o w) (tot A) m st f (RF 289 37 [.ref 241, .int (nI st), .int (nI (97 + o)), .int (nI T), .int (nI p), v, z] [] (wI h g)) := by
    intro p q rb sn g T v z H hp
    have hT := H.le
    subst hp
    obtain ⟨B, h1, h2, h3, h4, h5, h6⟩ := H
    right
    refine ⟨g, ?_, h6, fun F G hc => ⟨_, _, B.closed L hm h4 hc, fun i hi => .inl hi, .inr ⟨0, by have := B.1.2.1; omega, B.1.1⟩, fun i hi => ?_⟩, h5⟩
    · rw [e289_37]
      simp (disch := omega) only [cond_true, cond_false, bI_ok, bI_er, bV_ok, bV_er, bR_ok, bR_er, bD_ok, bD_er, bF_ok, bF_er, thr_ap, cl_nI, lt_nI, le_nI, eq_nI, m1_lt, nI_m1, m1_nI, nI_lt_m1, add_nI, sub_nI, addm_nI, z_addm, z_subm, mul_nI, fit1_0, fit1_1, fit2_n, HI_wI, HK_wI, HL_wI, HR_wI, ckK_wI, chI_wI, sI_wI, wI_wI, lz0, lz1, lz2, lz3, lz4, lz5, lz6, lz7, lz8, lz9, lz10, lz12, lz13, lz16, lz17, lz20, lz21, lz23, lz26, lz30, lz32, lz35, lz40, lz45, lz48, lz57, lz58, lz59, lz60, lz61, lz63, lz64, lz97, lz99, lz100, lz110, lz111, lz126, lz129, lz132, lz133, lz166, lz169, lz255, lz999, lz1183, lz1800, Nat.reduceAdd, Nat.reduceLT, Nat.reduceEqDiff, Nat.not_lt_zero, Nat.lt_irrefl, ↓reduceIte, Nat.zero_add, Nat.add_zero, ne_eq, not_true_eq_false, not_false_eq_true, reduceCtorEq]
    · rcases hi with z | ⟨x, x1, x2⟩
      · exact .inl z
      · by_cases x0 : x = 0
        · subst x0
          exact .inr (.inl (x2.symm.trans B.1.1))
        · obtain ⟨r, p', _, y2, _⟩ := B.2.1 x (by omega) x1
          rw [x2] at y2
          exact .inr (.inr (by rw [y2]; rfl))
  intro k
  induction k with
  | zero =>
    intro p hk q rb sn g T v z H hp
    have := H.le
    exact hend p q rb sn g T v z H (by omega)
  | succ k ih =>
    intro p hk q rb sn g T v z H hp
    by_cases hpT : p = T
    · exact hend p q rb sn g T v z H hpT
    · have hlt : p < T := by omega
      have hTn := H.le
      have e : RF 289 37 [.ref 241, .int (nI st), .int (nI (97 + o)), .int (nI T), .int (nI p), v, z] [] (wI h g) = RF 289 46 [.ref 241, .int (nI st), .int (nI (97 + o)), .int (nI T), .int (nI p), .int (nI 0), z] [] (wI h g) := by
        rw [e289_37]
        simp (disch := omega) only [hlt, cond_true, cond_false, bI_ok, bI_er, bV_ok, bV_er, bR_ok, bR_er, bD_ok, bD_er, bF_ok, bF_er, thr_ap, cl_nI, lt_nI, le_nI, eq_nI, m1_lt, nI_m1, m1_nI, nI_lt_m1, add_nI, sub_nI, addm_nI, z_addm, z_subm, mul_nI, fit1_0, fit1_1, fit2_n, HI_wI, HK_wI, HL_wI, HR_wI, ckK_wI, chI_wI, sI_wI, wI_wI, lz0, lz1, lz2, lz3, lz4, lz5, lz6, lz7, lz8, lz9, lz10, lz12, lz13, lz16, lz17, lz20, lz21, lz23, lz26, lz30, lz32, lz35, lz40, lz45, lz48, lz57, lz58, lz59, lz60, lz61, lz63, lz64, lz97, lz99, lz100, lz110, lz111, lz126, lz129, lz132, lz133, lz166, lz169, lz255, lz999, lz1183, lz1800, Nat.reduceAdd, Nat.reduceLT, Nat.reduceEqDiff, Nat.not_lt_zero, Nat.lt_irrefl, ↓reduceIte, Nat.zero_add, Nat.add_zero, ne_eq, not_true_eq_false, not_false_eq_true, reduceCtorEq]
      rw [e]
      exact augIn_ok S R hso ho hm hs0 hst (q p) (fun q rb sn g T v z H' hp' => ih (p + 1) (by omega) q rb sn g T v z H' (by omega)) z H hlt rfl
theorem augments_ok (S : MdS h) {s o w st : Nat} {m : MF} {f : Nat → Nat → Int32} (R : RM (f 242) A D) (hso : s ≠ o) (ho : o < 3) (hM : Mp f (tot A) m) (hm : MT (eM A (f 242) s o w) m) (hn : st < tot A) (hs0 : ms (f 242) st = s ∧ mk (f 242) st ≠ w) (hst : ∀ j, eM A (f 242) s o w st j = true → m st = none) : Q2 h (eM A (f 242) s o w) (tot A) m st f (CL 289 [.ref 241, .int (nI st), .int (nI (97 + o))] (wI h f)) := by
  have L := eM_LR A (f 242) hso w
  have n30 := R.m30
  obtain ⟨g, e1, h1, h2⟩ := lpEx (β := Nat → Nat → Int32) (n := tot A) (x0 := f) (F := fun i x => RF 289 2 [.ref 241, .int (nI st), .int (nI (97 + o)), .int (nI i), .null, .null, .null] [] (wI h x)) (P := fun i x => (∀ k, k < i → x 247 k = -nI 1) ∧ ∀ a y, a ≠ 247 → x a y = f a y) ⟨fun k hk => absurd hk (Nat.not_lt_zero k), fun _ _ _ => rfl⟩ (fun i x hi hP => by
    obtain ⟨p1, p2⟩ := hP
    have x1 : x 242 1 = nI (tot A) := (p2 242 1 (by decide)).trans R.m
    refine ⟨u2 x 247 i (-nI 1), ?_, fun k hk => ?_, fun a y ha => (w2_ne (by omega)).trans (p2 a y ha)⟩
    · rw [e289_2]
      simp (disch := omega) only [S.f, S.cw (show 1 < 169 by decide), S.pc (show i < 30 by omega), x1, hi, cond_true, cond_false, bI_ok, bI_er, bV_ok, bV_er, bR_ok, bR_er, bD_ok, bD_er, bF_ok, bF_er, thr_ap, cl_nI, lt_nI, le_nI, eq_nI, m1_lt, nI_m1, m1_nI, nI_lt_m1, add_nI, sub_nI, addm_nI, z_addm, z_subm, mul_nI, fit1_0, fit1_1, fit2_n, HI_wI, HK_wI, HL_wI, HR_wI, ckK_wI, chI_wI, sI_wI, wI_wI, lz0, lz1, lz2, lz3, lz4, lz5, lz6, lz7, lz8, lz9, lz10, lz12, lz13, lz16, lz17, lz20, lz21, lz23, lz26, lz30, lz32, lz35, lz40, lz45, lz48, lz57, lz58, lz59, lz60, lz61, lz63, lz64, lz97, lz99, lz100, lz110, lz111, lz126, lz129, lz132, lz133, lz166, lz169, lz255, lz999, lz1183, lz1800, Nat.reduceAdd, Nat.reduceLT, Nat.reduceEqDiff, Nat.not_lt_zero, Nat.lt_irrefl, ↓reduceIte, Nat.zero_add, Nat.add_zero, ne_eq, not_true_eq_false, not_false_eq_true, reduceCtorEq]
    · by_cases q : k = i
      · subst q
        exact w2_eq _ _ _ _
      · exact (w2_ne (by omega)).trans (p1 k (by omega)))
  have g1 : g 242 1 = nI (tot A) := (h2 242 1 (by decide)).trans R.m
  have e2 : CL 289 [.ref 241, .int (nI st), .int (nI (97 + o))] (wI h f) = RF 289 37 [.ref 241, .int (nI st), .int (nI (97 + o)), .int (nI 1), .int (nI 0), .null, .null] [] (wI h (u2 g 248 0 (nI st))) := by
    rw [e289]
    refine e1.trans ?_
    rw [e289_2]
    simp (disch := omega) only [S.f, S.cw (show 1 < 169 by decide), S.pc (show 0 < 30 by omega), g1, cond_true, cond_false, bI_ok, bI_er, bV_ok, bV_er, bR_ok, bR_er, bD_ok, bD_er, bF_ok, bF_er, thr_ap, cl_nI, lt_nI, le_nI, eq_nI, m1_lt, nI_m1, m1_nI, nI_lt_m1, add_nI, sub_nI, addm_nI, z_addm, z_subm, mul_nI, fit1_0, fit1_1, fit2_n, HI_wI, HK_wI, HL_wI, HR_wI, ckK_wI, chI_wI, sI_wI, wI_wI, lz0, lz1, lz2, lz3, lz4, lz5, lz6, lz7, lz8, lz9, lz10, lz12, lz13, lz16, lz17, lz20, lz21, lz23, lz26, lz30, lz32, lz35, lz40, lz45, lz48, lz57, lz58, lz59, lz60, lz61, lz63, lz64, lz97, lz99, lz100, lz110, lz111, lz126, lz129, lz132, lz133, lz166, lz169, lz255, lz999, lz1183, lz1800, Nat.reduceAdd, Nat.reduceLT, Nat.reduceEqDiff, Nat.not_lt_zero, Nat.lt_irrefl, ↓reduceIte, Nat.zero_add, Nat.add_zero, ne_eq, not_true_eq_false, not_false_eq_true, reduceCtorEq]
  rw [e2]
  refine augOut_ok S R hso ho hm hs0 hst (tot A) 0 (by omega) (fun _ => st) (fun i => i) (fun _ => false) _ _ _ _ ⟨BQ.start rfl hn, fun x hx => ?_, fun i hi => ?_, fun r => ?_, fun x hx => absurd hx (Nat.not_lt_zero x), fun a x q1 q2 q3 => (w2_ne (by omega)).trans (h2 a x q2), fun i hi => ?_⟩ (by omega)
  · rw [show x = 0 by omega, w2_eq]
  · rw [w2_ne (by omega)]
    exact (h1 i hi).trans (if_neg Bool.false_ne_true).symm
  · cases hq : eM A (f 242) s o w r r with
    | false => rfl
    | true => exact absurd rfl (L.ne hq)
  · rw [w2_ne (by omega), h2 246 i (by decide)]
    exact hM i hi
theorem matchesM_ok (S : MdS h) {s o w : Nat} {f : Nat → Nat → Int32} (R : RM (f 242) A D) (hs : s < 3) (ho : o < 3) (hso : s ≠ o) (wx : Int32) (hw : ∀ i, i < tot A → (nI i = wx) = (ms (f 242) i = s ∧ mk (f 242) i = w)) : ∃ z f', CL 290 [.ref 241, .int (nI (97 + s)), .int (nI (97 + o)), .int wx] (wI h f) = some (.ok (.int (nI z)), wI h f') ∧ MCk (ek A s o w) 1000 z ∧ z ≤ 30 ∧ Fp f f' := by
  have L := eM_LR A (f 242) hso w
  have n30 := R.m30
  obtain ⟨g0, e1, h1, h2⟩ := lpEx (β := Nat → Nat → Int32) (n := tot A) (x0 := f) (F := fun i x => RF 290 6 [.ref 241, .int (nI (97 + s)), .int (nI (97 + o)), .int wx, .int (nI 0), .int (nI i)] [] (wI h x)) (P := fun i x => (∀ k, k < i → x 246 k = -nI 1) ∧ ∀ a y, a ≠ 246 → x a y = f a y) ⟨fun k hk => absurd hk (Nat.not_lt_zero k), fun _ _ _ => rfl⟩ (fun i x hi hP => by
    obtain ⟨p1, p2⟩ := hP
    have x1 : x 242 1 = nI (tot A) := (p2 242 1 (by decide)).trans R.m
    refine ⟨u2 x 246 i (-nI 1), ?_, fun k hk => ?_, fun a y ha => (w2_ne (by omega)).trans (p2 a y ha)⟩
    · rw [e290_6]
      simp (disch := omega) only [S.f, S.cw (show 1 < 169 by decide), S.pc (show i < 30 by omega), x1, hi, cond_true, cond_false, bI_ok, bI_er, bV_ok, bV_er, bR_ok, bR_er, bD_ok, bD_er, bF_ok, bF_er, thr_ap, cl_nI, lt_nI, le_nI, eq_nI, m1_lt, nI_m1, m1_nI, nI_lt_m1, add_nI, sub_nI, addm_nI, z_addm, z_subm, mul_nI, fit1_0, fit1_1, fit2_n, HI_wI, HK_wI, HL_wI, HR_wI, ckK_wI, chI_wI, sI_wI, wI_wI, lz0, lz1, lz2, lz3, lz4, lz5, lz6, lz7, lz8, lz9, lz10, lz12, lz13, lz16, lz17, lz20, lz21, lz23, lz26, lz30, lz32, lz35, lz40, lz45, lz48, lz57, lz58, lz59, lz60, lz61, lz63, lz64, lz97, lz99, lz100, lz110, lz111, lz126, lz129, lz132, lz133, lz166, lz169, lz255, lz999, lz1183, lz1800, Nat.reduceAdd, Nat.reduceLT, Nat.reduceEqDiff, Nat.not_lt_zero, Nat.lt_irrefl, ↓reduceIte, Nat.zero_add, Nat.add_zero, ne_eq, not_true_eq_false, not_false_eq_true, reduceCtorEq]
    · by_cases q : k = i
      · subst q
        exact w2_eq _ _ _ _
      · exact (w2_ne (by omega)).trans (p1 k (by omega)))
  have g01 : g0 242 1 = nI (tot A) := (h2 242 1 (by decide)).trans R.m
  have F0 : Fp f g0 := fun a x q1 q2 q3 => h2 a x q1
  have e2 : CL 290 [.ref 241, .int (nI (97 + s)), .int (nI (97 + o)), .int wx] (wI h f) = RF 290 34 [.ref 241, .int (nI (97 + s)), .int (nI (97 + o)), .int wx, .int (nI 0), .int (nI 0)] [] (wI h g0) := by
    rw [e290]
    refine e1.trans ?_
    rw [e290_6]
    simp (disch := omega) only [S.f, S.cw (show 1 < 169 by decide), g01, cond_true, cond_false, bI_ok, bI_er, bV_ok, bV_er, bR_ok, bR_er, bD_ok, bD_er, bF_ok, bF_er, thr_ap, cl_nI, lt_nI, le_nI, eq_nI, m1_lt, nI_m1, m1_nI, nI_lt_m1, add_nI, sub_nI, addm_nI, z_addm, z_subm, mul_nI, fit1_0, fit1_1, fit2_n, HI_wI, HK_wI, HL_wI, HR_wI, ckK_wI, chI_wI, sI_wI, wI_wI, lz0, lz1, lz2, lz3, lz4, lz5, lz6, lz7, lz8, lz9, lz10, lz12, lz13, lz16, lz17, lz20, lz21, lz23, lz26, lz30, lz32, lz35, lz40, lz45, lz48, lz57, lz58, lz59, lz60, lz61, lz63, lz64, lz97, lz99, lz100, lz110, lz111, lz126, lz129, lz132, lz133, lz166, lz169, lz255, lz999, lz1183, lz1800, Nat.reduceAdd, Nat.reduceLT, Nat.reduceEqDiff, Nat.not_lt_zero, Nat.lt_irrefl, ↓reduceIte, Nat.zero_add, Nat.add_zero, ne_eq, not_true_eq_false, not_false_eq_true, reduceCtorEq]
  obtain ⟨⟨g, m⟩, e3, h3, h4, h5, h6, F, G, h7, h8, h9⟩ := lpEx (β := (Nat → Nat → Int32) × MF) (n := tot A) (x0 := (g0, fun _ => none)) (F := fun i x => RF 290 34 [.ref 241, .int (nI (97 + s)), .int (nI (97 + o)), .int wx, .int (nI (sumN (fun k => b2n (ml (eM A (f 242) s o w) x.2 k)) i)), .int (nI i)] [] (wI h x.1)) (P := fun i x => Mp x.1 (tot A) x.2 ∧ MT (eM A (f 242) s o w) x.2 ∧ Fp f x.1 ∧ (∀ k, i ≤ k → ml (eM A (f 242) s o w) x.2 k = false) ∧ ∃ F G : Nat → Prop, CS (eM A (f 242) s o w) x.2 F G ∧ (∀ k, k < i → ml (eM A (f 242) s o w) x.2 k = true ∨ F k) ∧ ∀ k, F k → k < i ∨ (x.2 k).isSome = true) ⟨h1, (fun i j hij => by cases hij), F0, fun k _ => rfl, fun _ => False, fun _ => False, ⟨fun _ _ hF => hF.elim, fun _ hG => hG.elim⟩, fun k hk => absurd hk (Nat.not_lt_zero k), fun _ hF => hF.elim⟩ (fun i x hi hP => by
    obtain ⟨g, m⟩ := x
    obtain ⟨h1, h2, h3, h4, F, G, h5, h6, h8⟩ := hP
    dsimp only at h1 h2 h3 h4 h5 h6 h8 ⊢
    have Rg := h3.rm R
    obtain ⟨em, ekk⟩ := h3.ms
    have eE : eM A (g 242) s o w = eM A (f 242) s o w := by
      funext i j
      unfold eM
      rw [em, em, ekk, ekk]
    have g1 : g 242 1 = nI (tot A) := Rg.m
    have hsi := of_s (S.wI g) Rg hi
    rw [HI_wI, em] at hsi
    have hb := R.b hi
    have eo : (97 + ms (f 242) i = 97 + s) = (ms (f 242) i = s) := propext (by omega)
    have hsz : sumN (fun k => b2n (ml (eM A (f 242) s o w) m k)) i ≤ tot A := by
      have := sumN_bd (f := fun k => b2n (ml (eM A (f 242) s o w) m k)) (n := i) (b := 1) (fun k _ => b2n_le _)
      omega
    have hs0 : sumN (fun k => b2n (ml (eM A (f 242) s o w) m k)) (i + 1) = sumN (fun k => b2n (ml (eM A (f 242) s o w) m k)) i := by
      show sumN (fun k => b2n (ml (eM A (f 242) s o w) m k)) i + b2n (ml (eM A (f 242) s o w) m i) = _
      rw [h4 i (Nat.le_refl i)]
      rfl
    by_cases hgo : ms (f 242) i = s ∧ mk (f 242) i ≠ w
    · have hwx : ¬(nI i = wx) := by
        rw [hw i hi]
        exact fun z => hgo.2 z.2
      have hst : ∀ j, eM A (f 242) s o w i j = true → m i = none := fun j hj => by
        cases hmi : m i with
        | none => rfl
        | some k =>
          have hm4 := h4 i (Nat.le_refl i)
          rcases (h2 i k hmi).2 with z | z
          · rw [ml_of hmi z] at hm4
            cases hm4
          · have := L.2 i j k hj
            rw [z] at this
            cases this
      have hq := augments_ok S Rg hso ho h1 (by rw [eE]; exact h2) hi (by rw [em, ekk]; exact hgo) (by rw [eE]; exact hst)
      rw [eE] at hq
      rcases hq with ⟨m', f', k1, k2, ⟨k3, k4, k5, k6⟩, k7⟩ | ⟨f', k1, k2, k3, k7⟩
      · refine ⟨(f', m'), ?_, k2, k3, h3.trans k7, fun k hk => ?_, F, G, k6 F G h5, fun k hk => ?_, fun k hF => ?_⟩
        · have hs : sumN (fun k => b2n (ml (eM A (f 242) s o w) m' k)) (i + 1) = sumN (fun k => b2n (ml (eM A (f 242) s o w) m k)) i + 1 := by
            show sumN (fun k => b2n (ml (eM A (f 242) s o w) m' k)) i + b2n (ml (eM A (f 242) s o w) m' i) = _
            rw [k4 i, decide_eq_true rfl, Bool.or_true, b2t, sumN_eq (g := fun k => b2n (ml (eM A (f 242) s o w) m k)) (fun k hk => by rw [k4 k, decide_eq_false (by omega), Bool.or_false])]
          dsimp only
          rw [hs, e290_34]
          simp (disch := omega) only [S.f, S.cw (show 1 < 169 by decide), g1, hi, hwx, hsi, eo, hgo.1, k1, Nat.succ_ne_self, cond_true, cond_false, bI_ok, bI_er, bV_ok, bV_er, bR_ok, bR_er, bD_ok, bD_er, bF_ok, bF_er, thr_ap, cl_nI, lt_nI, le_nI, eq_nI, m1_lt, nI_m1, m1_nI, nI_lt_m1, add_nI, sub_nI, addm_nI, z_addm, z_subm, mul_nI, fit1_0, fit1_1, fit2_n, HI_wI, HK_wI, HL_wI, HR_wI, ckK_wI, chI_wI, sI_wI, wI_wI, lz0, lz1, lz2, lz3, lz4, lz5, lz6, lz7, lz8, lz9, lz10, lz12, lz13, lz16, lz17, lz20, lz21, lz23, lz26, lz30, lz32, lz35, lz40, lz45, lz48, lz57, lz58, lz59, lz60, lz61, lz63, lz64, lz97, lz99, lz100, lz110, lz111, lz126, lz129, lz132, lz133, lz166, lz169, lz255, lz999, lz1183, lz1800, Nat.reduceAdd, Nat.reduceLT, Nat.reduceEqDiff, Nat.not_lt_zero, Nat.lt_irrefl, ↓reduceIte, Nat.zero_add, Nat.add_zero, ne_eq, not_true_eq_false, not_false_eq_true, reduceCtorEq]
        · dsimp only
          rw [k4 k, h4 k (by omega), decide_eq_false (by omega)]
          rfl
        · dsimp only
          rw [k4 k]
          by_cases q : k = i
          · left
            rw [decide_eq_true q, Bool.or_true]
          · rcases h6 k (by omega) with z | z
            · left
              rw [z, Bool.true_or]
            · exact .inr z
        · rcases h8 k hF with z | z
          · exact .inl (by omega)
          · exact .inr (k5 k z)
      · obtain ⟨F', G', c1, c2, c3, c4⟩ := k3 F G h5
        refine ⟨(f', m), ?_, k2, h2, h3.trans k7, fun k hk => h4 k (by omega), F', G', c1, fun k hk => ?_, fun k hF => ?_⟩
        · dsimp only
          rw [hs0, e290_34]
          simp (disch := omega) only [S.f, S.cw (show 1 < 169 by decide), g1, hi, hwx, hsi, eo, hgo.1, k1, Nat.succ_ne_self, cond_true, cond_false, bI_ok, bI_er, bV_ok, bV_er, bR_ok, bR_er, bD_ok, bD_er, bF_ok, bF_er, thr_ap, cl_nI, lt_nI, le_nI, eq_nI, m1_lt, nI_m1, m1_nI, nI_lt_m1, add_nI, sub_nI, addm_nI, z_addm, z_subm, mul_nI, fit1_0, fit1_1, fit2_n, HI_wI, HK_wI, HL_wI, HR_wI, ckK_wI, chI_wI, sI_wI, wI_wI, lz0, lz1, lz2, lz3, lz4, lz5, lz6, lz7, lz8, lz9, lz10, lz12, lz13, lz16, lz17, lz20, lz21, lz23, lz26, lz30, lz32, lz35, lz40, lz45, lz48, lz57, lz58, lz59, lz60, lz61, lz63, lz64, lz97, lz99, lz100, lz110, lz111, lz126, lz129, lz132, lz133, lz166, lz169, lz255, lz999, lz1183, lz1800, Nat.reduceAdd, Nat.reduceLT, Nat.reduceEqDiff, Nat.not_lt_zero, Nat.lt_irrefl, ↓reduceIte, Nat.zero_add, Nat.add_zero, ne_eq, not_true_eq_false, not_false_eq_true, reduceCtorEq]
        · by_cases q : k = i
          · rw [q]
            exact .inr c3
          · rcases h6 k (by omega) with z | z
            · exact .inl z
            · exact .inr (c2 k z)
        · rcases c4 k hF with z | z | z
          · rcases h8 k z with y | y
            · exact .inl (by omega)
            · exact .inr y
          · exact .inl (by omega)
          · exact .inr z
    · have hno : ∀ j, eM A (f 242) s o w i j = false := fun j => by
        cases hq : eM A (f 242) s o w i j with
        | false => rfl
        | true => exact absurd ⟨(eM_t hq).1.2.2.1, (eM_t hq).1.2.2.2.2⟩ hgo
      refine ⟨(g, m), ?_, h1, h2, h3, fun k hk => h4 k (by omega), fun k => F k ∨ k = i, G, ⟨fun a j hF he => ?_, fun j hG => ?_⟩, fun k hk => ?_, fun k hF => ?_⟩
      · dsimp only
        rw [hs0, e290_34]
        by_cases hwx : nI i = wx
        · subst hwx
          simp (disch := omega) only [S.f, S.cw (show 1 < 169 by decide), g1, hi, eq_self, Nat.succ_ne_self, cond_true, cond_false, bI_ok, bI_er, bV_ok, bV_er, bR_ok, bR_er, bD_ok, bD_er, bF_ok, bF_er, thr_ap, cl_nI, lt_nI, le_nI, eq_nI, m1_lt, nI_m1, m1_nI, nI_lt_m1, add_nI, sub_nI, addm_nI, z_addm, z_subm, mul_nI, fit1_0, fit1_1, fit2_n, HI_wI, HK_wI, HL_wI, HR_wI, ckK_wI, chI_wI, sI_wI, wI_wI, lz0, lz1, lz2, lz3, lz4, lz5, lz6, lz7, lz8, lz9, lz10, lz12, lz13, lz16, lz17, lz20, lz21, lz23, lz26, lz30, lz32, lz35, lz40, lz45, lz48, lz57, lz58, lz59, lz60, lz61, lz63, lz64, lz97, lz99, lz100, lz110, lz111, lz126, lz129, lz132, lz133, lz166, lz169, lz255, lz999, lz1183, lz1800, Nat.reduceAdd, Nat.reduceLT, Nat.reduceEqDiff, Nat.not_lt_zero, Nat.lt_irrefl, ↓reduceIte, Nat.zero_add, Nat.add_zero, ne_eq, not_true_eq_false, not_false_eq_true, reduceCtorEq]
        · have hms : ¬(ms (f 242) i = s) := fun z => by
            rw [hw i hi] at hwx
            by_cases q : mk (f 242) i = w
            · exact hwx ⟨z, q⟩
            · exact hgo ⟨z, q⟩
          simp (disch := omega) only [S.f, S.cw (show 1 < 169 by decide), g1, hi, hwx, hsi, eo, hms, Nat.succ_ne_self, cond_true, cond_false, bI_ok, bI_er, bV_ok, bV_er, bR_ok, bR_er, bD_ok, bD_er, bF_ok, bF_er, thr_ap, cl_nI, lt_nI, le_nI, eq_nI, m1_lt, nI_m1, m1_nI, nI_lt_m1, add_nI, sub_nI, addm_nI, z_addm, z_subm, mul_nI, fit1_0, fit1_1, fit2_n, HI_wI, HK_wI, HL_wI, HR_wI, ckK_wI, chI_wI, sI_wI, wI_wI, lz0, lz1, lz2, lz3, lz4, lz5, lz6, lz7, lz8, lz9, lz10, lz12, lz13, lz16, lz17, lz20, lz21, lz23, lz26, lz30, lz32, lz35, lz40, lz45, lz48, lz57, lz58, lz59, lz60, lz61, lz63, lz64, lz97, lz99, lz100, lz110, lz111, lz126, lz129, lz132, lz133, lz166, lz169, lz255, lz999, lz1183, lz1800, Nat.reduceAdd, Nat.reduceLT, Nat.reduceEqDiff, Nat.not_lt_zero, Nat.lt_irrefl, ↓reduceIte, Nat.zero_add, Nat.add_zero, ne_eq, not_true_eq_false, not_false_eq_true, reduceCtorEq]
      · rcases hF with z | z
        · exact h5.1 a j z he
        · subst z
          rw [hno j] at he
          cases he
      · obtain ⟨a, a1, a2, a3⟩ := h5.2 j hG
        exact ⟨a, a1, .inl a2, a3⟩
      · by_cases q : k = i
        · exact .inr (.inr q)
        · rcases h6 k (by omega) with z | z
          · exact .inl z
          · exact .inr (.inl z)
      · rcases hF with z | z
        · rcases h8 k z with y | y
          · exact .inl (by omega)
          · exact .inr y
        · exact .inl (by omega))
  dsimp only at e3 h3 h4 h5 h6 h7 h8 h9
  have hsz : sumN (fun k => b2n (ml (eM A (f 242) s o w) m k)) (tot A) ≤ tot A := by
    have := sumN_bd (f := fun k => b2n (ml (eM A (f 242) s o w) m k)) (n := tot A) (b := 1) (fun k _ => b2n_le _)
    omega
  have g1 : g 242 1 = nI (tot A) := (h5.rm R).m
  refine ⟨sumN (fun k => b2n (ml (eM A (f 242) s o w) m k)) (tot A), g, ?_, MC_rows L h4 h7 h8 (mk (f 242)) (fun i hi => (R.b hi).2.1) (fun i i' j j' a c he => ?_) (fun i i' j j' a c he => ?_) (fun i j hij => ?_) (fun k k' hkk => ?_), by omega, h5⟩
  · rw [e2]
    refine e3.trans ?_
    rw [e290_34]
    simp (disch := omega) only [S.f, S.cw (show 1 < 169 by decide), g1, cond_true, cond_false, bI_ok, bI_er, bV_ok, bV_er, bR_ok, bR_er, bD_ok, bD_er, bF_ok, bF_er, thr_ap, cl_nI, lt_nI, le_nI, eq_nI, m1_lt, nI_m1, m1_nI, nI_lt_m1, add_nI, sub_nI, addm_nI, z_addm, z_subm, mul_nI, fit1_0, fit1_1, fit2_n, HI_wI, HK_wI, HL_wI, HR_wI, ckK_wI, chI_wI, sI_wI, wI_wI, lz0, lz1, lz2, lz3, lz4, lz5, lz6, lz7, lz8, lz9, lz10, lz12, lz13, lz16, lz17, lz20, lz21, lz23, lz26, lz30, lz32, lz35, lz40, lz45, lz48, lz57, lz58, lz59, lz60, lz61, lz63, lz64, lz97, lz99, lz100, lz110, lz111, lz126, lz129, lz132, lz133, lz166, lz169, lz255, lz999, lz1183, lz1800, Nat.reduceAdd, Nat.reduceLT, Nat.reduceEqDiff, Nat.not_lt_zero, Nat.lt_irrefl, ↓reduceIte, Nat.zero_add, Nat.add_zero, ne_eq, not_true_eq_false, not_false_eq_true, reduceCtorEq]
  · have a := (eM_t a).1
    have c := (eM_t c).1
    exact R.inj a.1 c.1 (a.2.2.1.trans c.2.2.1.symm) he
  · have a := (eM_t a).1
    have c := (eM_t c).1
    exact R.inj a.2.1 c.2.1 (a.2.2.2.1.trans c.2.2.2.1.symm) he
  · obtain ⟨⟨a1, a2, a3, a4, a5⟩, a6⟩ := eM_t hij
    unfold ek
    rw [a6, decide_eq_true a5, decide_eq_true ⟨(R.b a1).2.1, (R.b a2).2.1⟩]
    rfl
  · unfold ek at hkk
    rw [Bool.and_eq_true, Bool.and_eq_true] at hkk
    obtain ⟨⟨a1, a2⟩, a3⟩ := hkk
    obtain ⟨k1, k2⟩ := of_decide_eq_true a1
    have a3 := of_decide_eq_true a3
    have a4 := of_decide_eq_true a2
    obtain ⟨i, i1, i2, i3⟩ := R.ex hs k1 a4.2.1
    obtain ⟨j, j1, j2, j3⟩ := R.ex ho k2 a4.2.2.1
    refine ⟨i, j, ?_, i3, j3⟩
    unfold eM
    rw [i3, j3, a2, decide_eq_true ⟨i1, j1, i2, j2, a3⟩]
    rfl
end MM
