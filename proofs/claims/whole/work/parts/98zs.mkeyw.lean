/-! THE REFERENCE: the line of a key written -/
theorem FLi.refl (f : Nat → Nat → Int32) : FLi f f := fun _ _ _ _ => rfl
theorem FLm.i {f f' : Nat → Nat → Int32} (H : FLm f f') : FLi f f' := fun a y q _ => H a y q
theorem FLi.trans {f g k : Nat → Nat → Int32} (H : FLi f g) (K : FLi g k) : FLi f k := fun a y q1 q2 => (K a y q1 q2).trans (H a y q1 q2)
section LQ3
variable {h : Hp} {b : Bk}
theorem raw_r (S : MdS h) {f : Nat → Nat → Int32} (R : RN (f 242) b) {j : Nat} (hj : j < tot (kA b)) {f' : Nat → Nat → Int32} (e : ∀ y, f' 242 y = f 242 y) : CL 220 [.ref 241, .int (nI j), .int (nI 0)] (wI h f') = some (.ok (.int (nI (97 + ms (f 242) j))), wI h f') ∧ CL 220 [.ref 241, .int (nI j), .int (nI 1)] (wI h f') = some (.ok (.int (nI (mk (f 242) j))), wI h f') ∧ CL 220 [.ref 241, .int (nI j), .int (nI 2)] (wI h f') = some (.ok (.int (nI (kA b (ms (f 242) j) (mk (f 242) j)))), wI h f') := by
  have m30 := R.1.m30
  have r := R.1.r hj
  have h0 := of_raw (S.wI f') (j := j) (c := 0) (by omega) (by decide)
  have h1 := of_raw (S.wI f') (j := j) (c := 1) (by omega) (by decide)
  have h2 := of_raw (S.wI f') (j := j) (c := 2) (by omega) (by decide)
  rw [HI_wI, e, Nat.add_zero, r.1] at h0
  rw [HI_wI, e, r.2.1] at h1
  rw [HI_wI, e, r.2.2.1] at h2
  exact ⟨h0, h1, h2⟩
theorem keyM_loop (S : MdS h) (K : KoS h) {f : Nat → Nat → Int32} (F : Ko f) (R : RN (f 242) b) {k : Nat} (hk : k < 1000) (h0 : 0 < hoA (kA b) k) : ∀ (d j : Nat) (g : Nat → Nat → Int32), j + d = tot (kA b) → FLi f g → LM g (txt (kA b) (f 242) k j) → ∃ f', RF 320 42 [.ref 241, .int (nI k), .int (nI (txt (kA b) (f 242) k j).length), .int (nI j)] [] (wI h g) = some (.ok (.int (nI (keyL (kA b) k).length)), wI h f') ∧ LI f' (keyL (kA b) k) ∧ f' 241 16 = g 241 16 ∧ FLi f f' := by
  have m30 := R.1.m30
  have hA : ∀ s, s < 3 → kA b s k < 100 := fun s hs => R.1.a100 hs hk
  intro d
  induction d with
  | zero =>
    intro j g hj H L
    have e : j = tot (kA b) := by omega
    subst e
    have hg : ∀ y, g 242 y = f 242 y := fun y => H 242 y (by decide) (by omega)
    have Rg : RN (g 242) b := R.cong (fun y _ => hg y)
    have Fg : Ko g := F.fr (fun a y ha => H a y (by omega) (by omega))
    have g1 : g 242 1 = nI (tot (kA b)) := Rg.1.m
    rw [txt_m R.1 hk] at L ⊢
    have hl := keyB_len hk hA
    have hst := status_ok (h := wI h g) (S.wI g) Rg.1 hk h0
    have hsl : stA (kA b) k < 112 := st3_lt _ _ _
    obtain ⟨w1, w2, w3, w4, _⟩ := lws28
    have fin : ∀ (g' : Nat → Nat → Int32) (M : List Nat), LM g' M → FLi f g' → g' 241 16 = g 241 16 → LI (u2 g' 241 15 (nI M.length)) M ∧ u2 g' 241 15 (nI M.length) 241 16 = g 241 16 ∧ FLi f (u2 g' 241 15 (nI M.length)) := fun g' M q1 q2 q3 => ⟨⟨q1.fr (fun y => w2_ne (by omega)), w2_eq _ _ _ _⟩, (w2_ne (by omega)).trans q3, fun a y z1 z2 => (w2_ne (by omega)).trans (q2 a y z1 z2)⟩
    unfold keyL
    by_cases q1 : stA (kA b) k = 99
    · rw [if_pos q1]
      obtain ⟨g2, a2, b2, c2⟩ := writes_ok S K (nI (keyB (kA b) k).length) (nI 0) (e := 10) (by decide) 10 0 g (keyB (kA b) k) (by decide) Fg L (by omega)
      rw [w1] at b2
      obtain ⟨z1, z2, z3⟩ := fin g2 _ b2 (H.trans c2.i) (c2 241 16 (by decide))
      refine ⟨_, ?_, z1, z2, z3⟩
      rw [q1] at hst
      have e1 := e319 241 (nI (keyB (kA b) k).length) (nI 0) (nI 10) (wI h g)
      rw [e320_42]
      simp (disch := omega) only [S.f, S.cw (show 1 < 169 by decide), g1, hst, e1, a2, w2_eq, la2, lws_len, show ¬(99 = 100) by decide, cond_true, cond_false, bI_ok, bI_er, bV_ok, bV_er, bR_ok, bR_er, bD_ok, bD_er, bF_ok, bF_er, thr_ap, cl_nI, lt_nI, le_nI, eq_nI, m1_lt, nI_m1, m1_nI, nI_lt_m1, add_nI, sub_nI, addm_nI, z_addm, z_subm, mul_nI, fit1_0, fit1_1, fit2_n, HI_wI, HK_wI, HL_wI, HR_wI, ckK_wI, chI_wI, sI_wI, wI_wI, lz0, lz1, lz2, lz3, lz4, lz5, lz6, lz7, lz8, lz9, lz10, lz12, lz13, lz16, lz17, lz20, lz21, lz23, lz26, lz30, lz32, lz35, lz40, lz45, lz48, lz57, lz58, lz59, lz60, lz61, lz63, lz64, lz97, lz99, lz100, lz110, lz111, lz126, lz129, lz132, lz133, lz166, lz169, lz255, lz999, lz1183, lz1800, Nat.reduceAdd, Nat.reduceLT, Nat.reduceEqDiff, Nat.not_lt_zero, Nat.lt_irrefl, ↓reduceIte, Nat.zero_add, Nat.add_zero, ne_eq, not_true_eq_false, not_false_eq_true, reduceCtorEq]
    · rw [if_neg q1]
      by_cases q2 : stA (kA b) k = 100
      · rw [if_pos q2]
        obtain ⟨g2, a2, b2, c2⟩ := writes_ok S K (nI (keyB (kA b) k).length) (nI 10) (e := 21) (by decide) 11 10 g (keyB (kA b) k) (by decide) Fg L (by omega)
        rw [w2] at b2
        have R2 : RN (g2 242) b := R.cong (fun y _ => (c2 242 y (by decide)).trans (hg y))
        have hac := accepted_ok (h := wI h g2) (S.wI g2) R2.1 hk h0
        have hal := R.1.ac100 hk
        obtain ⟨g3, a3, b3, c3⟩ := wn_ok S b2 (v := acA (kA b) k) (n := (keyB (kA b) k).length + 11) (m := ((keyB (kA b) k ++ lws 6 0 11) ++ dig (acA (kA b) k)).length) (by omega) (by rw [la2, lws_len]; omega) (by rw [la2, lws_len]) (by rw [la2, la2, lws_len])
        obtain ⟨z1, z2, z3⟩ := fin g3 _ b3 ((H.trans c2.i).trans c3.i) ((c3 241 16 (by decide)).trans (c2 241 16 (by decide)))
        refine ⟨_, ?_, z1, z2, z3⟩
        rw [q2] at hst
        have e1 := e319 241 (nI (keyB (kA b) k).length) (nI 10) (nI 21) (wI h g)
        rw [e320_42]
        simp (disch := omega) only [S.f, S.cw (show 1 < 169 by decide), g1, hst, e1, a2, hac, a3, w2_eq, show ¬(100 = 99) by decide, cond_true, cond_false, bI_ok, bI_er, bV_ok, bV_er, bR_ok, bR_er, bD_ok, bD_er, bF_ok, bF_er, thr_ap, cl_nI, lt_nI, le_nI, eq_nI, m1_lt, nI_m1, m1_nI, nI_lt_m1, add_nI, sub_nI, addm_nI, z_addm, z_subm, mul_nI, fit1_0, fit1_1, fit2_n, HI_wI, HK_wI, HL_wI, HR_wI, ckK_wI, chI_wI, sI_wI, wI_wI, lz0, lz1, lz2, lz3, lz4, lz5, lz6, lz7, lz8, lz9, lz10, lz12, lz13, lz16, lz17, lz20, lz21, lz23, lz26, lz30, lz32, lz35, lz40, lz45, lz48, lz57, lz58, lz59, lz60, lz61, lz63, lz64, lz97, lz99, lz100, lz110, lz111, lz126, lz129, lz132, lz133, lz166, lz169, lz255, lz999, lz1183, lz1800, Nat.reduceAdd, Nat.reduceLT, Nat.reduceEqDiff, Nat.not_lt_zero, Nat.lt_irrefl, ↓reduceIte, Nat.zero_add, Nat.add_zero, ne_eq, not_true_eq_false, not_false_eq_true, reduceCtorEq]
      · rw [if_neg q2]
        obtain ⟨g2, a2, b2, c2⟩ := writes_ok S K (nI (keyB (kA b) k).length) (nI 21) (e := 26) (by decide) 5 21 g (keyB (kA b) k) (by decide) Fg L (by omega)
        rw [w3] at b2
        obtain ⟨z1, z2, z3⟩ := fin g2 _ b2 (H.trans c2.i) (c2 241 16 (by decide))
        refine ⟨_, ?_, z1, z2, z3⟩
        have e1 := e319 241 (nI (keyB (kA b) k).length) (nI 21) (nI 26) (wI h g)
        rw [e320_42]
        simp (disch := omega) only [S.f, S.cw (show 1 < 169 by decide), g1, hst, e1, a2, w2_eq, la2, lws_len, q1, q2, cond_true, cond_false, bI_ok, bI_er, bV_ok, bV_er, bR_ok, bR_er, bD_ok, bD_er, bF_ok, bF_er, thr_ap, cl_nI, lt_nI, le_nI, eq_nI, m1_lt, nI_m1, m1_nI, nI_lt_m1, add_nI, sub_nI, addm_nI, z_addm, z_subm, mul_nI, fit1_0, fit1_1, fit2_n, HI_wI, HK_wI, HL_wI, HR_wI, ckK_wI, chI_wI, sI_wI, wI_wI, lz0, lz1, lz2, lz3, lz4, lz5, lz6, lz7, lz8, lz9, lz10, lz12, lz13, lz16, lz17, lz20, lz21, lz23, lz26, lz30, lz32, lz35, lz40, lz45, lz48, lz57, lz58, lz59, lz60, lz61, lz63, lz64, lz97, lz99, lz100, lz110, lz111, lz126, lz129, lz132, lz133, lz166, lz169, lz255, lz999, lz1183, lz1800, Nat.reduceAdd, Nat.reduceLT, Nat.reduceEqDiff, Nat.not_lt_zero, Nat.lt_irrefl, ↓reduceIte, Nat.zero_add, Nat.add_zero, ne_eq, not_true_eq_false, not_false_eq_true, reduceCtorEq]
  | succ d ih =>
    intro j g hj H L
    have hjt : j < tot (kA b) := by omega
    have hg : ∀ y, g 242 y = f 242 y := fun y => H 242 y (by decide) (by omega)
    have g1 : g 242 1 = nI (tot (kA b)) := (hg 1).trans R.1.m
    have hb := R.1.b hjt
    obtain ⟨r0, r1, r2⟩ := raw_r S R hjt hg
    by_cases q : mk (f 242) j = k
    · subst q
      have hl := txt_len (g := f 242) (j := j) hk hA
      have l2 := dig_len2 hb.2.2.2.1
      have ey := txt_y R.1 hjt
      generalize hM : txt (kA b) (f 242) (mk (f 242) j) j = M at *
      obtain ⟨g2, a2, b2, c2⟩ := putc_ok S L (c := 32) (n := M.length) (m := M.length + 1) (by omega) rfl rfl
      obtain ⟨g3, a3, b3, c3⟩ := putc_ok S b2 (c := 97 + ms (f 242) j) (n := M.length + 1) (m := M.length + 1 + 1) (by rw [la1]; omega) (by rw [la1]) rfl
      have hg2 : ∀ y, g2 242 y = f 242 y := fun y => (c2 242 y (by decide)).trans (hg y)
      have hg3 : ∀ y, g3 242 y = f 242 y := fun y => (c3 242 y (by decide)).trans (hg2 y)
      obtain ⟨g4, a4, b4, c4⟩ := wn_ok S b3 (v := kA b (ms (f 242) j) (mk (f 242) j)) (n := M.length + 1 + 1) (m := (((M ++ [32]) ++ [97 + ms (f 242) j]) ++ dig (kA b (ms (f 242) j) (mk (f 242) j))).length) (by omega) (by rw [la1, la1]; omega) (by rw [la1, la1]) (by rw [la2, la1, la1])
      obtain ⟨s0, _, _⟩ := raw_r S R hjt hg2
      obtain ⟨_, _, s2⟩ := raw_r S R hjt hg3
      have H4 := ((H.trans c2.i).trans c3.i).trans c4.i
      rw [← ey] at b4 a4
      obtain ⟨f', f1, f2, f3, f4⟩ := ih (j + 1) g4 (by omega) H4 b4
      refine ⟨f', ?_, f2, f3.trans ((c4 241 16 (by decide)).trans ((c3 241 16 (by decide)).trans (c2 241 16 (by decide)))), f4⟩
      rw [e320_42]
      simp (disch := omega) only [S.f, S.cw (show 1 < 169 by decide), g1, hjt, r1, a2, s0, a3, s2, a4, f1, cond_true, cond_false, bI_ok, bI_er, bV_ok, bV_er, bR_ok, bR_er, bD_ok, bD_er, bF_ok, bF_er, thr_ap, cl_nI, lt_nI, le_nI, eq_nI, m1_lt, nI_m1, m1_nI, nI_lt_m1, add_nI, sub_nI, addm_nI, z_addm, z_subm, mul_nI, fit1_0, fit1_1, fit2_n, HI_wI, HK_wI, HL_wI, HR_wI, ckK_wI, chI_wI, sI_wI, wI_wI, lz0, lz1, lz2, lz3, lz4, lz5, lz6, lz7, lz8, lz9, lz10, lz12, lz13, lz16, lz17, lz20, lz21, lz23, lz26, lz30, lz32, lz35, lz40, lz45, lz48, lz57, lz58, lz59, lz60, lz61, lz63, lz64, lz97, lz99, lz100, lz110, lz111, lz126, lz129, lz132, lz133, lz166, lz169, lz255, lz999, lz1183, lz1800, Nat.reduceAdd, Nat.reduceLT, Nat.reduceEqDiff, Nat.not_lt_zero, Nat.lt_irrefl, ↓reduceIte, Nat.zero_add, Nat.add_zero, ne_eq, not_true_eq_false, not_false_eq_true, reduceCtorEq]
    · have ey := txt_n (A := kA b) q
      obtain ⟨f', f1, f2, f3, f4⟩ := ih (j + 1) g (by omega) H (by rw [ey]; exact L)
      rw [ey] at f1
      refine ⟨f', ?_, f2, f3, f4⟩
      rw [e320_42]
      simp (disch := omega) only [S.f, S.cw (show 1 < 169 by decide), g1, hjt, r1, q, f1, cond_true, cond_false, bI_ok, bI_er, bV_ok, bV_er, bR_ok, bR_er, bD_ok, bD_er, bF_ok, bF_er, thr_ap, cl_nI, lt_nI, le_nI, eq_nI, m1_lt, nI_m1, m1_nI, nI_lt_m1, add_nI, sub_nI, addm_nI, z_addm, z_subm, mul_nI, fit1_0, fit1_1, fit2_n, HI_wI, HK_wI, HL_wI, HR_wI, ckK_wI, chI_wI, sI_wI, wI_wI, lz0, lz1, lz2, lz3, lz4, lz5, lz6, lz7, lz8, lz9, lz10, lz12, lz13, lz16, lz17, lz20, lz21, lz23, lz26, lz30, lz32, lz35, lz40, lz45, lz48, lz57, lz58, lz59, lz60, lz61, lz63, lz64, lz97, lz99, lz100, lz110, lz111, lz126, lz129, lz132, lz133, lz166, lz169, lz255, lz999, lz1183, lz1800, Nat.reduceAdd, Nat.reduceLT, Nat.reduceEqDiff, Nat.not_lt_zero, Nat.lt_irrefl, ↓reduceIte, Nat.zero_add, Nat.add_zero, ne_eq, not_true_eq_false, not_false_eq_true, reduceCtorEq]
theorem keyM_f (S : MdS h) (R : RN (HI h 242) b) (x : Int32) (hx : inr 0 999 x = false) : CL 320 [.ref 241, .int x] h = some (.ok (.int (nI 0)), wI h (u2 (HI h) 241 16 (nI 1))) := by
  have hi2 := isKeyM_ok (h := h) x
  have hw := withKey_f S R.1 hx
  have hg := holds_ok S false false true
  rw [b2f, b2t, show thN false false true = 1 from rfl, show b2n (decide (1 = 0)) = 0 from rfl] at hg
  rw [hx, b2f] at hi2
  rw [e320]
  simp (disch := omega) only [S.f, pos_nI, hi2, hw, hg, cond_true, cond_false, bI_ok, bI_er, bV_ok, bV_er, bR_ok, bR_er, bD_ok, bD_er, bF_ok, bF_er, thr_ap, cl_nI, lt_nI, le_nI, eq_nI, m1_lt, nI_m1, m1_nI, nI_lt_m1, add_nI, sub_nI, addm_nI, z_addm, z_subm, mul_nI, fit1_0, fit1_1, fit2_n, HI_wI, HK_wI, HL_wI, HR_wI, ckK_wI, chI_wI, sI_wI, wI_wI, lz0, lz1, lz2, lz3, lz4, lz5, lz6, lz7, lz8, lz9, lz10, lz12, lz13, lz16, lz17, lz20, lz21, lz23, lz26, lz30, lz32, lz35, lz40, lz45, lz48, lz57, lz58, lz59, lz60, lz61, lz63, lz64, lz97, lz99, lz100, lz110, lz111, lz126, lz129, lz132, lz133, lz166, lz169, lz255, lz999, lz1183, lz1800, Nat.reduceAdd, Nat.reduceLT, Nat.reduceEqDiff, Nat.not_lt_zero, Nat.lt_irrefl, ↓reduceIte, Nat.zero_add, Nat.add_zero, ne_eq, not_true_eq_false, not_false_eq_true, reduceCtorEq]
theorem keyM_n (S : MdS h) (R : RN (HI h 242) b) {k : Nat} (hk : k < 1000) (h0 : hoA (kA b) k = 0) : CL 320 [.ref 241, .int (nI k)] h = some (.ok (.int (nI 0)), wI h (u2 (HI h) 241 16 (nI 2))) := by
  have hi2 := isKeyM_ok (h := h) (nI k)
  rw [inr_nI (by omega) (by omega) (by decide), b2t] at hi2
  have hw := withKey_ok S R.1 hk
  rw [h0] at hw
  have hg := holds_ok S true false true
  rw [b2f, b2t, show thN true false true = 2 from rfl, show b2n (decide (2 = 0)) = 0 from rfl] at hg
  rw [e320]
  simp (disch := omega) only [S.f, pos_nI, hi2, hw, hg, cond_true, cond_false, bI_ok, bI_er, bV_ok, bV_er, bR_ok, bR_er, bD_ok, bD_er, bF_ok, bF_er, thr_ap, cl_nI, lt_nI, le_nI, eq_nI, m1_lt, nI_m1, m1_nI, nI_lt_m1, add_nI, sub_nI, addm_nI, z_addm, z_subm, mul_nI, fit1_0, fit1_1, fit2_n, HI_wI, HK_wI, HL_wI, HR_wI, ckK_wI, chI_wI, sI_wI, wI_wI, lz0, lz1, lz2, lz3, lz4, lz5, lz6, lz7, lz8, lz9, lz10, lz12, lz13, lz16, lz17, lz20, lz21, lz23, lz26, lz30, lz32, lz35, lz40, lz45, lz48, lz57, lz58, lz59, lz60, lz61, lz63, lz64, lz97, lz99, lz100, lz110, lz111, lz126, lz129, lz132, lz133, lz166, lz169, lz255, lz999, lz1183, lz1800, Nat.reduceAdd, Nat.reduceLT, Nat.reduceEqDiff, Nat.not_lt_zero, Nat.lt_irrefl, ↓reduceIte, Nat.zero_add, Nat.add_zero, ne_eq, not_true_eq_false, not_false_eq_true, reduceCtorEq]
theorem keyM_t (S : MdS h) (K : KoS h) (F : Ko (HI h)) (R : RN (HI h 242) b) {k : Nat} (hk : k < 1000) (h0 : 0 < hoA (kA b) k) : ∃ f', CL 320 [.ref 241, .int (nI k)] h = some (.ok (.int (nI (keyL (kA b) k).length)), wI h f') ∧ LI f' (keyL (kA b) k) ∧ f' 241 16 = nI 0 ∧ FLi (HI h) f' := by
  have hi2 := isKeyM_ok (h := h) (nI k)
  rw [inr_nI (by omega) (by omega) (by decide), b2t] at hi2
  have hw := withKey_ok S R.1 hk
  have h3 : hoA (kA b) k ≤ 3 := by
    unfold hoA hol3 b2n
    repeat' split
    all_goals omega
  have hg := holds_ok S true true true
  rw [b2t, show thN true true true = 0 from rfl, show b2n (decide (0 = 0)) = 1 from rfl] at hg
  have R0 : RN (u2 (HI h) 241 16 (nI 0) 242) b := R.cong (fun y _ => w2_ne (by omega))
  have k0 : u2 (HI h) 241 16 (nI 0) 241 16 = nI 0 := w2_eq _ _ _ _
  have F0 : FLi (HI h) (u2 (HI h) 241 16 (nI 0)) := fun a y q1 q2 => w2_ne (by omega)
  have K0 : Ko (u2 (HI h) 241 16 (nI 0)) := F.fr (fun a y ha => w2_ne (by omega))
  generalize u2 (HI h) 241 16 (nI 0) = g0 at *
  have l1 := dig_len3 hk
  obtain ⟨g1, a1, b1, c1⟩ := wn_ok S (LM.nil g0) (v := k) (n := 0) (m := (dig k).length) (by omega) (by decide) rfl (by omega)
  obtain ⟨g2, a2, b2, c2⟩ := putc_ok S b1 (c := 58) (n := (dig k).length) (m := (dig k ++ [58]).length) (by rw [List.nil_append]; omega) rfl (by rw [la1])
  rw [List.nil_append] at b2
  have et := txt_0 (kA b) (g0 242) k
  rw [← et] at b2 a2
  obtain ⟨f', f1, f2, f3, f4⟩ := keyM_loop S K K0 R0 hk h0 (tot (kA b)) 0 g2 (by omega) (c1.trans c2).i b2
  refine ⟨f', ?_, f2, f3.trans ((c2 241 16 (by decide)).trans ((c1 241 16 (by decide)).trans k0)), F0.trans f4⟩
  rw [e320]
  simp (disch := omega) only [S.f, pos_nI, h0, hi2, hw, hg, a1, a2, f1, Nat.succ_ne_self, cond_true, cond_false, bI_ok, bI_er, bV_ok, bV_er, bR_ok, bR_er, bD_ok, bD_er, bF_ok, bF_er, thr_ap, cl_nI, lt_nI, le_nI, eq_nI, m1_lt, nI_m1, m1_nI, nI_lt_m1, add_nI, sub_nI, addm_nI, z_addm, z_subm, mul_nI, fit1_0, fit1_1, fit2_n, HI_wI, HK_wI, HL_wI, HR_wI, ckK_wI, chI_wI, sI_wI, wI_wI, lz0, lz1, lz2, lz3, lz4, lz5, lz6, lz7, lz8, lz9, lz10, lz12, lz13, lz16, lz17, lz20, lz21, lz23, lz26, lz30, lz32, lz35, lz40, lz45, lz48, lz57, lz58, lz59, lz60, lz61, lz63, lz64, lz97, lz99, lz100, lz110, lz111, lz126, lz129, lz132, lz133, lz166, lz169, lz255, lz999, lz1183, lz1800, Nat.reduceAdd, Nat.reduceLT, Nat.reduceEqDiff, Nat.not_lt_zero, Nat.lt_irrefl, ↓reduceIte, Nat.zero_add, Nat.add_zero, ne_eq, not_true_eq_false, not_false_eq_true, reduceCtorEq]
end LQ3
