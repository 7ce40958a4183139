/-! THE CLASS: matching one by one -/
/-- z is the greatest number, seen from the rows -/
def IX (E : EF) (n z : Nat) : Prop := ∃ (m : MF) (F G : Nat → Prop), MT E m ∧ CS E m F G ∧ (∀ i, i < n → ml E m i = true ∨ F i) ∧ z = sumN (fun i => b2n (ml E m i)) n
section MG
variable {h : Hp}
theorem growOne_ok (S : MgS h) {E : EF} {n : Nat} {f : Nat → Nat → Int32} (L : LR E n) (n30 : n ≤ 30) (h7 : f 227 7 = nI n) (hr : ∀ i j, i < n → j < n → bt (f 228 i) j = E i j) (hM : Ms f n (fun _ => none)) : ∃ z f', CL 115 [.ref 227] (wI h f) = some (.ok (.int (nI z)), wI h f') ∧ IX E n z ∧ z ≤ n ∧ Fq f f' := by
  obtain ⟨⟨g, m⟩, e1, h1, h2, h3, h4, F, G, h5, h6, h8⟩ := lpEx (β := (Nat → Nat → Int32) × MF) (n := n) (x0 := (f, fun _ => none)) (F := fun i x => RF 115 4 [.ref 227, .int (nI (sumN (fun k => b2n (ml E x.2 k)) i)), .int (nI i)] [] (wI h x.1)) (P := fun i x => Ms x.1 n x.2 ∧ MT E x.2 ∧ Fq f x.1 ∧ (∀ k, i ≤ k → ml E x.2 k = false) ∧ ∃ F G : Nat → Prop, CS E x.2 F G ∧ (∀ k, k < i → ml E x.2 k = true ∨ F k) ∧ ∀ k, F k → k < i ∨ (x.2 k).isSome = true) ⟨hM, (fun i j hij => by cases hij), Fq.rf, fun k _ => rfl, fun _ => False, fun _ => False, ⟨fun _ _ hF => hF.elim, fun _ hG => hG.elim⟩, fun k hk => absurd hk (Nat.not_lt_zero k), fun _ hF => hF.elim⟩ (fun i x hi hP => by
    obtain ⟨g, m⟩ := x
    obtain ⟨h1, h2, h3, h4, F, G, h5, h6, h8⟩ := hP
    dsimp only at h1 h2 h3 h4 h5 h6 h8 ⊢
    have g7 : g 227 7 = nI n := (h3 227 7 (by decide) (by decide) (by decide)).trans h7
    have hst : ∀ j, E i j = true → m i = none := fun j hj => by
      cases hmi : m i with
      | none => rfl
      | some k =>
        have hm4 := h4 i (Nat.le_refl i)
        rcases (h2 i k hmi).2 with z | z
        · rw [ml_of hmi z] at hm4
          cases hm4
        · have := L.2 i j k hj
          rw [z] at this
          cases this
    have hq := findMate_ok S L n30 g7 (fun a b ha hb => by rw [h3 228 a (by decide) (by decide) (by decide)]; exact hr a b ha hb) h1 h2 hi hst
    have hsz : sumN (fun k => b2n (ml E m k)) i ≤ n := by
      have := sumN_bd (f := fun k => b2n (ml E m k)) (n := i) (b := 1) (fun k _ => b2n_le _)
      omega
    rcases hq with ⟨m', f', k1, k2, ⟨k3, k4, k5, k6⟩, k7⟩ | ⟨f', k1, k2, k3, k7⟩
    · refine ⟨(f', m'), ?_, k2, k3, fun a x q1 q2 q3 => (k7 a x q1 q2 q3).trans (h3 a x q1 q2 q3), fun k hk => ?_, F, G, k6 F G h5, fun k hk => ?_, fun k hF => ?_⟩
      · have hs : sumN (fun k => b2n (ml E m' k)) (i + 1) = sumN (fun k => b2n (ml E m k)) i + 1 := by
          show sumN (fun k => b2n (ml E m' k)) i + b2n (ml E m' i) = _
          rw [k4 i, decide_eq_true rfl, Bool.or_true, b2t, sumN_eq (g := fun k => b2n (ml E m k)) (fun k hk => by rw [k4 k, decide_eq_false (by omega), Bool.or_false])]
        dsimp only
        rw [hs, e115_4]
        simp (disch := omega) only [S.f, g7, hi, k1, Nat.succ_ne_self, cond_true, cond_false, bI_ok, bI_er, bV_ok, bV_er, bR_ok, bR_er, bD_ok, bD_er, bF_ok, bF_er, thr_ap, cl_nI, lt_nI, le_nI, eq_nI, m1_lt, nI_m1, m1_nI, nI_lt_m1, add_nI, sub_nI, addm_nI, z_addm, z_subm, mul_nI, fit1_0, fit1_1, fit2_n, HI_wI, HK_wI, HL_wI, HR_wI, ckK_wI, chI_wI, sI_wI, wI_wI, lz0, lz1, lz2, lz3, lz4, lz5, lz6, lz7, lz8, lz9, lz10, lz12, lz13, lz16, lz17, lz20, lz21, lz23, lz26, lz30, lz32, lz35, lz40, lz45, lz48, lz57, lz58, lz59, lz60, lz61, lz63, lz64, lz97, lz99, lz100, lz110, lz111, lz126, lz129, lz132, lz133, lz166, lz169, lz255, lz999, lz1183, lz1800, Nat.reduceAdd, Nat.reduceLT, Nat.reduceEqDiff, Nat.not_lt_zero, Nat.lt_irrefl, ↓reduceIte, Nat.zero_add, Nat.add_zero, ne_eq, not_true_eq_false, not_false_eq_true, reduceCtorEq]
      · dsimp only
        rw [k4 k, h4 k (by omega), decide_eq_false (by omega)]
        rfl
      · dsimp only
        rw [k4 k]
        by_cases q : k = i
        · left
          rw [decide_eq_true q, Bool.or_true]
        · rcases h6 k (by omega) with z | z
          · left
            rw [z, Bool.true_or]
          · exact .inr z
      · rcases h8 k hF with z | z
        · exact .inl (by omega)
        · exact .inr (k5 k z)
    · obtain ⟨F', G', c1, c2, c3, c4⟩ := k3 F G h5
      refine ⟨(f', m), ?_, k2, h2, fun a x q1 q2 q3 => (k7 a x q1 q2 q3).trans (h3 a x q1 q2 q3), fun k hk => h4 k (by omega), F', G', c1, fun k hk => ?_, fun k hF => ?_⟩
      · have hs : sumN (fun k => b2n (ml E m k)) (i + 1) = sumN (fun k => b2n (ml E m k)) i := by
          show sumN (fun k => b2n (ml E m k)) i + b2n (ml E m i) = _
          rw [h4 i (Nat.le_refl i)]
          rfl
        dsimp only
        rw [hs, e115_4]
        simp (disch := omega) only [S.f, g7, hi, k1, cond_true, cond_false, bI_ok, bI_er, bV_ok, bV_er, bR_ok, bR_er, bD_ok, bD_er, bF_ok, bF_er, thr_ap, cl_nI, lt_nI, le_nI, eq_nI, m1_lt, nI_m1, m1_nI, nI_lt_m1, add_nI, sub_nI, addm_nI, z_addm, z_subm, mul_nI, fit1_0, fit1_1, fit2_n, HI_wI, HK_wI, HL_wI, HR_wI, ckK_wI, chI_wI, sI_wI, wI_wI, lz0, lz1, lz2, lz3, lz4, lz5, lz6, lz7, lz8, lz9, lz10, lz12, lz13, lz16, lz17, lz20, lz21, lz23, lz26, lz30, lz32, lz35, lz40, lz45, lz48, lz57, lz58, lz59, lz60, lz61, lz63, lz64, lz97, lz99, lz100, lz110, lz111, lz126, lz129, lz132, lz133, lz166, lz169, lz255, lz999, lz1183, lz1800, Nat.reduceAdd, Nat.reduceLT, Nat.reduceEqDiff, Nat.not_lt_zero, Nat.lt_irrefl, ↓reduceIte, Nat.zero_add, Nat.add_zero, ne_eq, not_true_eq_false, not_false_eq_true, reduceCtorEq]
      · by_cases q : k = i
        · rw [q]
          exact .inr c3
        · rcases h6 k (by omega) with z | z
          · exact .inl z
          · exact .inr (c2 k z)
      · rcases c4 k hF with z | z | z
        · rcases h8 k z with y | y
          · exact .inl (by omega)
          · exact .inr y
        · exact .inl (by omega)
        · exact .inr z)
  dsimp only at e1 h1 h2 h3 h4 h5 h6 h8
  have hsz : sumN (fun k => b2n (ml E m k)) n ≤ n := by
    have := sumN_bd (f := fun k => b2n (ml E m k)) (n := n) (b := 1) (fun k _ => b2n_le _)
    omega
  have g7 : g 227 7 = nI n := (h3 227 7 (by decide) (by decide) (by decide)).trans h7
  refine ⟨sumN (fun k => b2n (ml E m k)) n, g, ?_, ⟨m, F, G, h2, h5, h6, rfl⟩, hsz, h3⟩
  rw [e115]
  refine e1.trans ?_
  rw [e115_4]
  simp (disch := omega) only [S.f, g7, cond_true, cond_false, bI_ok, bI_er, bV_ok, bV_er, bR_ok, bR_er, bD_ok, bD_er, bF_ok, bF_er, thr_ap, cl_nI, lt_nI, le_nI, eq_nI, m1_lt, nI_m1, m1_nI, nI_lt_m1, add_nI, sub_nI, addm_nI, z_addm, z_subm, mul_nI, fit1_0, fit1_1, fit2_n, HI_wI, HK_wI, HL_wI, HR_wI, ckK_wI, chI_wI, sI_wI, wI_wI, lz0, lz1, lz2, lz3, lz4, lz5, lz6, lz7, lz8, lz9, lz10, lz12, lz13, lz16, lz17, lz20, lz21, lz23, lz26, lz30, lz32, lz35, lz40, lz45, lz48, lz57, lz58, lz59, lz60, lz61, lz63, lz64, lz97, lz99, lz100, lz110, lz111, lz126, lz129, lz132, lz133, lz166, lz169, lz255, lz999, lz1183, lz1800, Nat.reduceAdd, Nat.reduceLT, Nat.reduceEqDiff, Nat.not_lt_zero, Nat.lt_irrefl, ↓reduceIte, Nat.zero_add, Nat.add_zero, ne_eq, not_true_eq_false, not_false_eq_true, reduceCtorEq]
/-- the pairs of two sources' rows -/
def er (A : AF) (f : Nat → Nat → Int32) (t s o : Nat) : EF := fun i j => decide (i < tn f t ∧ j < tn f t) && ppA A s (tk f t i) o (tk f t j)
theorem er_t {A : AF} {f : Nat → Nat → Int32} {t s o i j : Nat} (h : er A f t s o i j = true) : (i < tn f t ∧ j < tn f t) ∧ ppA A s (tk f t i) o (tk f t j) = true := by
  unfold er at h
  rw [Bool.and_eq_true] at h
  exact ⟨of_decide_eq_true h.1, h.2⟩
theorem er_LR (A : AF) (f : Nat → Nat → Int32) (t s o : Nat) : LR (er A f t s o) (tn f t) := by
  refine ⟨fun i j h => (er_t h).1, fun i j k h => ?_⟩
  have h1 := of_decide_eq_true (er_t h).2
  cases hq : er A f t s o k i with
  | false => rfl
  | true =>
    have h2 := of_decide_eq_true (er_t hq).2
    omega
/-- the pairs of two sources' keys, the one of key w aside -/
def ek (A : AF) (s o w : Nat) : EF := fun k k' => decide (k < 1000 ∧ k' < 1000) && ppA A s k o k' && decide (k ≠ w)
def LD (f : Nat → Nat → Int32) (n : Nat) (E : EF) : Prop := f 227 7 = nI n ∧ (∀ i j, i < n → j < 32 → bt (f 228 i) j = E i j) ∧ Ms f n (fun _ => none)
theorem load_ok (S : MgS h) {t : Nat} {A D : AF} {f : Nat → Nat → Int32} (T : TbS h t) (R : RT f t A D) (ht : t + 10 ≤ 227) {s o : Nat} (hs : s < 3) (ho : o < 3) (hso : s ≠ o) : ∃ f', CL 112 [.ref 227, .ref t, .int (nI s), .int (nI o)] (wI h f) = some (.ok .null, wI h f') ∧ LD f' (tn f t) (er A f t s o) ∧ ∀ a x, ¬(a = 227 ∧ x = 7) → a ≠ 228 → a ≠ 229 → f' a x = f a x := by
  have n30 := R.n30
  have htf := T.f.1
  have hn := R.N.n
  have est : CL 112 [.ref 227, .ref t, .int (nI s), .int (nI o)] (wI h f) = RF 112 11 [.ref 227, .ref t, .int (nI s), .int (nI o), .int (nI 0), .null] [] (wI h (u2 f 227 7 (nI (tn f t)))) := by
    rw [e112]
    simp (disch := omega) only [S.f, htf, hn, cond_true, cond_false, bI_ok, bI_er, bV_ok, bV_er, bR_ok, bR_er, bD_ok, bD_er, bF_ok, bF_er, thr_ap, cl_nI, lt_nI, le_nI, eq_nI, m1_lt, nI_m1, m1_nI, nI_lt_m1, add_nI, sub_nI, addm_nI, z_addm, z_subm, mul_nI, fit1_0, fit1_1, fit2_n, HI_wI, HK_wI, HL_wI, HR_wI, ckK_wI, chI_wI, sI_wI, wI_wI, lz0, lz1, lz2, lz3, lz4, lz5, lz6, lz7, lz8, lz9, lz10, lz12, lz13, lz16, lz17, lz20, lz21, lz23, lz26, lz30, lz32, lz35, lz40, lz45, lz48, lz57, lz58, lz59, lz60, lz61, lz63, lz64, lz97, lz99, lz100, lz110, lz111, lz126, lz129, lz132, lz133, lz166, lz169, lz255, lz999, lz1183, lz1800, Nat.reduceAdd, Nat.reduceLT, Nat.reduceEqDiff, Nat.not_lt_zero, Nat.lt_irrefl, ↓reduceIte, Nat.zero_add, Nat.add_zero, ne_eq, not_true_eq_false, not_false_eq_true, reduceCtorEq]
  rw [est]
  obtain ⟨⟨g, v⟩, e1, h1, h2⟩ := lpEx (β := (Nat → Nat → Int32) × Value) (n := tn f t) (x0 := (u2 f 227 7 (nI (tn f t)), Value.null)) (F := fun i x => RF 112 11 [.ref 227, .ref t, .int (nI s), .int (nI o), .int (nI i), x.2] [] (wI h x.1)) (P := fun i x => (∀ l, l < i → x.1 229 l = -nI 1 ∧ ∀ j, j < 32 → bt (x.1 228 l) j = er A f t s o l j) ∧ ∀ a y, a ≠ 228 → a ≠ 229 → x.1 a y = u2 f 227 7 (nI (tn f t)) a y) ⟨fun l hl => absurd hl (Nat.not_lt_zero l), fun _ _ _ _ => rfl⟩ (fun i x hi hP => by
    obtain ⟨g, v⟩ := x
    obtain ⟨h1, h2⟩ := hP
    dsimp only at h1 h2 ⊢
    have g7 : g 227 7 = nI (tn f t) := (h2 227 7 (by decide) (by decide)).trans (w2_eq _ _ _ _)
    obtain ⟨g', k1, k2, k3⟩ := lpEx (β := Nat → Nat → Int32) (n := tn f t) (x0 := u2 (u2 g 229 i (-nI 1)) 228 i (nI 0)) (F := fun j x => RF 112 39 [.ref 227, .ref t, .int (nI s), .int (nI o), .int (nI i), .int (nI j)] [] (wI h x)) (P := fun j x => (∀ r, r < 32 → bt (x 228 i) r = (decide (r < j) && er A f t s o i r)) ∧ ∀ a y, ¬(a = 228 ∧ y = i) → x a y = u2 g 229 i (-nI 1) a y) ⟨fun r hr => by
      rw [w2_eq, bt_0, decide_eq_false (by omega), Bool.false_and], fun a y q => w2_ne q⟩ (fun j x hj hP => by
      obtain ⟨p1, p2⟩ := hP
      have x7 : x 227 7 = nI (tn f t) := (p2 227 7 (by omega)).trans ((w2_ne (by omega)).trans g7)
      have hag : ∀ a y, a < 227 → x a y = f a y := fun a y ha => by
        rw [p2 a y (by omega), w2_ne (by omega), h2 a y (by omega) (by omega), w2_ne (by omega)]
      have Rx : RT x t A D := R.cong (fun a y ha => hag (t + a) y (by omega))
      have etn : tn x t = tn f t := rd_cg (hag t 3 (by omega))
      have ektk : ∀ r, tk x t r = tk f t r := fun r => rd_cg (hag (t + 1) r (by omega))
      have hp := isPossible_ok (T.wI x) Rx.N (r := i) (q := j) hs (by omega) ho (by omega)
      rw [HI_wI, ps_pp Rx hs ho hso (by omega) (by omega), ektk, ektk] at hp
      have her : er A f t s o i j = ppA A s (tk f t i) o (tk f t j) := by
        unfold er
        rw [decide_eq_true ⟨hi, hj⟩, Bool.true_and]
      rw [← her] at hp
      cases hq : er A f t s o i j with
      | false =>
        rw [hq, b2f] at hp
        refine ⟨x, ?_, fun r hr => ?_, p2⟩
        · rw [e112_39]
          simp (disch := omega) only [S.f, htf, x7, hj, hp, cond_true, cond_false, bI_ok, bI_er, bV_ok, bV_er, bR_ok, bR_er, bD_ok, bD_er, bF_ok, bF_er, thr_ap, cl_nI, lt_nI, le_nI, eq_nI, m1_lt, nI_m1, m1_nI, nI_lt_m1, add_nI, sub_nI, addm_nI, z_addm, z_subm, mul_nI, fit1_0, fit1_1, fit2_n, HI_wI, HK_wI, HL_wI, HR_wI, ckK_wI, chI_wI, sI_wI, wI_wI, lz0, lz1, lz2, lz3, lz4, lz5, lz6, lz7, lz8, lz9, lz10, lz12, lz13, lz16, lz17, lz20, lz21, lz23, lz26, lz30, lz32, lz35, lz40, lz45, lz48, lz57, lz58, lz59, lz60, lz61, lz63, lz64, lz97, lz99, lz100, lz110, lz111, lz126, lz129, lz132, lz133, lz166, lz169, lz255, lz999, lz1183, lz1800, Nat.reduceAdd, Nat.reduceLT, Nat.reduceEqDiff, Nat.not_lt_zero, Nat.lt_irrefl, ↓reduceIte, Nat.zero_add, Nat.add_zero, ne_eq, not_true_eq_false, not_false_eq_true, reduceCtorEq]
        · rw [p1 r hr]
          by_cases q : r = j
          · subst q
            rw [hq, Bool.and_false, Bool.and_false]
          · congr 1
            rw [decide_eq_decide]
            omega
      | true =>
        rw [hq, b2t] at hp
        refine ⟨u2 x 228 i (sb (x 228 i) j), ?_, fun r hr => ?_, fun a y q => (w2_ne q).trans (p2 a y q)⟩
        · rw [e112_39]
          simp (disch := omega) only [S.f, S.c (show i < 30 by omega), htf, x7, hj, hp, ↓sb_eq, Nat.succ_ne_self, cond_true, cond_false, bI_ok, bI_er, bV_ok, bV_er, bR_ok, bR_er, bD_ok, bD_er, bF_ok, bF_er, thr_ap, cl_nI, lt_nI, le_nI, eq_nI, m1_lt, nI_m1, m1_nI, nI_lt_m1, add_nI, sub_nI, addm_nI, z_addm, z_subm, mul_nI, fit1_0, fit1_1, fit2_n, HI_wI, HK_wI, HL_wI, HR_wI, ckK_wI, chI_wI, sI_wI, wI_wI, lz0, lz1, lz2, lz3, lz4, lz5, lz6, lz7, lz8, lz9, lz10, lz12, lz13, lz16, lz17, lz20, lz21, lz23, lz26, lz30, lz32, lz35, lz40, lz45, lz48, lz57, lz58, lz59, lz60, lz61, lz63, lz64, lz97, lz99, lz100, lz110, lz111, lz126, lz129, lz132, lz133, lz166, lz169, lz255, lz999, lz1183, lz1800, Nat.reduceAdd, Nat.reduceLT, Nat.reduceEqDiff, Nat.not_lt_zero, Nat.lt_irrefl, ↓reduceIte, Nat.zero_add, Nat.add_zero, ne_eq, not_true_eq_false, not_false_eq_true, reduceCtorEq]
        · rw [w2_eq, bt_sb _ (by omega), p1 r hr]
          by_cases q : r = j
          · subst q
            rw [hq, decide_eq_true rfl, Bool.or_true, decide_eq_true (by omega)]
            rfl
          · rw [decide_eq_false q, Bool.or_false]
            congr 1
            rw [decide_eq_decide]
            omega)
    have g7' : g' 227 7 = nI (tn f t) := (k3 227 7 (by omega)).trans ((w2_ne (by omega)).trans g7)
    refine ⟨(g', .int (nI (tn f t))), ?_, fun l hl => ?_, fun a y q1 q2 => by dsimp only; rw [k3 a y (by omega), w2_ne (by omega), h2 a y q1 q2]⟩
    · have e2 : RF 112 11 [.ref 227, .ref t, .int (nI s), .int (nI o), .int (nI i), v] [] (wI h g) = RF 112 39 [.ref 227, .ref t, .int (nI s), .int (nI o), .int (nI i), .int (nI 0)] [] (wI h (u2 (u2 g 229 i (-nI 1)) 228 i (nI 0))) := by
        rw [e112_11]
        simp (disch := omega) only [S.f, S.c (show i < 30 by omega), htf, g7, hi, cond_true, cond_false, bI_ok, bI_er, bV_ok, bV_er, bR_ok, bR_er, bD_ok, bD_er, bF_ok, bF_er, thr_ap, cl_nI, lt_nI, le_nI, eq_nI, m1_lt, nI_m1, m1_nI, nI_lt_m1, add_nI, sub_nI, addm_nI, z_addm, z_subm, mul_nI, fit1_0, fit1_1, fit2_n, HI_wI, HK_wI, HL_wI, HR_wI, ckK_wI, chI_wI, sI_wI, wI_wI, lz0, lz1, lz2, lz3, lz4, lz5, lz6, lz7, lz8, lz9, lz10, lz12, lz13, lz16, lz17, lz20, lz21, lz23, lz26, lz30, lz32, lz35, lz40, lz45, lz48, lz57, lz58, lz59, lz60, lz61, lz63, lz64, lz97, lz99, lz100, lz110, lz111, lz126, lz129, lz132, lz133, lz166, lz169, lz255, lz999, lz1183, lz1800, Nat.reduceAdd, Nat.reduceLT, Nat.reduceEqDiff, Nat.not_lt_zero, Nat.lt_irrefl, ↓reduceIte, Nat.zero_add, Nat.add_zero, ne_eq, not_true_eq_false, not_false_eq_true, reduceCtorEq]
      rw [e2, k1, e112_39]
      simp (disch := omega) only [S.f, g7', cond_true, cond_false, bI_ok, bI_er, bV_ok, bV_er, bR_ok, bR_er, bD_ok, bD_er, bF_ok, bF_er, thr_ap, cl_nI, lt_nI, le_nI, eq_nI, m1_lt, nI_m1, m1_nI, nI_lt_m1, add_nI, sub_nI, addm_nI, z_addm, z_subm, mul_nI, fit1_0, fit1_1, fit2_n, HI_wI, HK_wI, HL_wI, HR_wI, ckK_wI, chI_wI, sI_wI, wI_wI, lz0, lz1, lz2, lz3, lz4, lz5, lz6, lz7, lz8, lz9, lz10, lz12, lz13, lz16, lz17, lz20, lz21, lz23, lz26, lz30, lz32, lz35, lz40, lz45, lz48, lz57, lz58, lz59, lz60, lz61, lz63, lz64, lz97, lz99, lz100, lz110, lz111, lz126, lz129, lz132, lz133, lz166, lz169, lz255, lz999, lz1183, lz1800, Nat.reduceAdd, Nat.reduceLT, Nat.reduceEqDiff, Nat.not_lt_zero, Nat.lt_irrefl, ↓reduceIte, Nat.zero_add, Nat.add_zero, ne_eq, not_true_eq_false, not_false_eq_true, reduceCtorEq]
    · dsimp only
      by_cases q : l = i
      · subst q
        refine ⟨(k3 229 l (by omega)).trans (w2_eq _ _ _ _), fun j hj => ?_⟩
        rw [k2 j hj]
        cases hq : er A f t s o l j with
        | false => rw [Bool.and_false]
        | true => rw [decide_eq_true (er_t hq).1.2, Bool.true_and]
      · obtain ⟨z1, z2⟩ := h1 l (by omega)
        refine ⟨(k3 229 l (by omega)).trans ((w2_ne (by omega)).trans z1), fun j hj => ?_⟩
        rw [k3 228 l (by omega), w2_ne (by omega)]
        exact z2 j hj)
  dsimp only at e1 h1 h2
  have g7 : g 227 7 = nI (tn f t) := (h2 227 7 (by decide) (by decide)).trans (w2_eq _ _ _ _)
  refine ⟨g, ?_, ⟨g7, fun i j hi hj => (h1 i hi).2 j hj, fun i hi => (h1 i hi).1⟩, fun a x q1 q2 q3 => by rw [h2 a x q2 q3, w2_ne q1]⟩
  rw [e1, e112_11]
  simp (disch := omega) only [S.f, g7, cond_true, cond_false, bI_ok, bI_er, bV_ok, bV_er, bR_ok, bR_er, bD_ok, bD_er, bF_ok, bF_er, thr_ap, cl_nI, lt_nI, le_nI, eq_nI, m1_lt, nI_m1, m1_nI, nI_lt_m1, add_nI, sub_nI, addm_nI, z_addm, z_subm, mul_nI, fit1_0, fit1_1, fit2_n, HI_wI, HK_wI, HL_wI, HR_wI, ckK_wI, chI_wI, sI_wI, wI_wI, lz0, lz1, lz2, lz3, lz4, lz5, lz6, lz7, lz8, lz9, lz10, lz12, lz13, lz16, lz17, lz20, lz21, lz23, lz26, lz30, lz32, lz35, lz40, lz45, lz48, lz57, lz58, lz59, lz60, lz61, lz63, lz64, lz97, lz99, lz100, lz110, lz111, lz126, lz129, lz132, lz133, lz166, lz169, lz255, lz999, lz1183, lz1800, Nat.reduceAdd, Nat.reduceLT, Nat.reduceEqDiff, Nat.not_lt_zero, Nat.lt_irrefl, ↓reduceIte, Nat.zero_add, Nat.add_zero, ne_eq, not_true_eq_false, not_false_eq_true, reduceCtorEq]
theorem IX_key {t : Nat} {A D : AF} {f : Nat → Nat → Int32} (R : RT f t A D) {s o w z : Nat} (hs : s < 3) (ho : o < 3) {E : EF} (hE : ∀ i j, E i j = (er A f t s o i j && decide (tk f t i ≠ w))) (H : IX E (tn f t) z) : MCk (ek A s o w) 1000 z := by
  obtain ⟨m, F, G, h1, h2, h3, rfl⟩ := H
  have hEr : ∀ i j, E i j = true → er A f t s o i j = true ∧ tk f t i ≠ w := fun i j h => by
    rw [hE, Bool.and_eq_true] at h
    exact ⟨h.1, of_decide_eq_true h.2⟩
  have L := er_LR A f t s o
  have n30 := R.n30
  have hk9 : ∀ i, i < tn f t → tk f t i < 1000 := fun i hi => R.N.k9 (by omega)
  refine MC_rows (E := E) (n := tn f t) ⟨fun i j h => L.1 i j (hEr i j h).1, fun i j k h => ?_⟩ h1 h2 h3 (tk f t) hk9 (fun i i' j j' a b he => R.inj (L.1 _ _ (hEr _ _ a).1).1 (L.1 _ _ (hEr _ _ b).1).1 he) (fun i i' j j' a b he => R.inj (L.1 _ _ (hEr _ _ a).1).2 (L.1 _ _ (hEr _ _ b).1).2 he) (fun i j h => ?_) (fun k k' h => ?_)
  · rw [hE, L.2 i j k (hEr i j h).1, Bool.false_and]
  · obtain ⟨a, b⟩ := hEr i j h
    obtain ⟨⟨c1, c2⟩, c3⟩ := er_t a
    unfold ek
    rw [c3, decide_eq_true b, decide_eq_true ⟨hk9 i c1, hk9 j c2⟩]
    rfl
  · unfold ek at h
    rw [Bool.and_eq_true, Bool.and_eq_true] at h
    obtain ⟨⟨a1, a2⟩, a3⟩ := h
    obtain ⟨k1, k2⟩ := of_decide_eq_true a1
    have a3 := of_decide_eq_true a3
    have a4 := of_decide_eq_true a2
    have row : ∀ s k, s < 3 → k < 1000 → 0 < A s k → ∃ r, r < tn f t ∧ tk f t r = k := fun s k hs hk h0 => by
      obtain ⟨r, r1, r2, _⟩ := rr_some R hs hk h0
      exact ⟨r, r1, r2⟩
    obtain ⟨i, i1, i2⟩ := row s k hs k1 a4.2.1
    obtain ⟨j, j1, j2⟩ := row o k' ho k2 a4.2.2.1
    refine ⟨i, j, ?_, i2, j2⟩
    rw [hE]
    unfold er
    rw [decide_eq_true ⟨i1, j1⟩, i2, j2, a2, decide_eq_true a3]
    rfl
end MG
