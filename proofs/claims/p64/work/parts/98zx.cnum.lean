/-! THE CLASS: a number added to its line -/
theorem m_toInt {a : Nat} (ha : a < 2147483648) : (-nI a).toInt = -(a : Int) := by
  rw [Int32.toInt_neg, nI_toInt ha]
  exact Int.bmod_eq_of_le (by omega) (by omega)
theorem lt_mm {a b : Nat} (ha : a < 2147483648) (hb : b < 2147483648) : (-nI a < -nI b) = (b < a) := propext (by
  rw [Int32.lt_iff_toInt_lt, m_toInt ha, m_toInt hb]
  omega)
theorem mul_m (a b : Nat) : nI a * -nI b = -nI (a * b) := by rw [Int32.mul_neg, mul_nI]
theorem m_mul (a b : Nat) : -nI a * nI b = -nI (a * b) := by rw [Int32.neg_mul, mul_nI]
theorem m_div {a b : Nat} (ha : a < 2147483648) (hb : b < 2147483648) : -nI a / nI b = -nI (a / b) := by
  have h1 : a / b ≤ a := Nat.div_le_self a b
  apply Int32.toInt_inj.mp
  rw [Int32.toInt_div, m_toInt ha, nI_toInt hb, m_toInt (by omega), Int.neg_tdiv, ← Int.ofNat_tdiv]
  generalize a / b = q at *
  exact Int.bmod_eq_of_le (by omega) (by omega)
theorem m_subm {a b : Nat} (h : a ≤ b) : -nI a - -nI b = nI (b - a) := by
  rw [← sub_nI h, Int32.sub_neg, Int32.add_comm, Int32.sub_eq_add_neg]
theorem dsz_eq {v d : Nat} (h1 : 1 ≤ d) (h10 : d ≤ 10) (hu : v < 10 ^ d) (hl : d = 1 ∨ 10 ^ (d - 1) ≤ v) (hv : v < 1073741824) : dsz v = d := by
  obtain ⟨s1, s2, s3, s4⟩ := dsz_spec hv
  rcases Nat.lt_trichotomy (dsz v) d with q | q | q
  · rcases hl with z | z
    · omega
    · have : 10 ^ dsz v ≤ 10 ^ (d - 1) := Nat.pow_le_pow_right (by decide) (by omega)
      omega
  · exact q
  · have := s4 (d - 1) (by omega)
    rw [Nat.sub_add_cancel h1] at this
    omega
theorem dsz_1 {v : Nat} (h : v < 10) : dsz v = 1 := dsz_eq (by decide) (by decide) (by omega) (.inl rfl) (by omega)
theorem dsz_2 {v : Nat} (h : 10 ≤ v) (h2 : v < 100) : dsz v = 2 := dsz_eq (by decide) (by decide) (by omega) (.inr (by omega)) (by omega)
theorem dsz_h {v : Nat} (h : 100 ≤ v) (hv : v < 1073741824) : dsz v = dsz (v / 100) + 2 := by
  obtain ⟨s1, s2, s3, s4⟩ := dsz_spec (v := v / 100) (by omega)
  have h8 : dsz (v / 100) ≤ 8 := dsz_le (by decide) (by decide) (show v / 100 < 10 ^ 8 by omega)
  have e1 : 10 ^ (dsz (v / 100) + 2) = 10 ^ dsz (v / 100) * 100 := Nat.pow_add 10 _ 2
  have e2 : 10 ^ (dsz (v / 100) + 2 - 1) = 10 ^ (dsz (v / 100) - 1) * 100 := by
    rw [show dsz (v / 100) + 2 - 1 = (dsz (v / 100) - 1) + 2 by omega]
    exact Nat.pow_add 10 _ 2
  refine dsz_eq (by omega) (by omega) ?_ (.inr ?_) hv
  · rw [e1]
    generalize 10 ^ dsz (v / 100) = P at *
    omega
  · rw [e2]
    by_cases q : dsz (v / 100) = 1
    · rw [q]
      omega
    · have := s4 (dsz (v / 100) - 2) (by omega)
      rw [show dsz (v / 100) - 2 + 1 = dsz (v / 100) - 1 by omega] at this
      generalize 10 ^ (dsz (v / 100) - 1) = P at *
      omega
theorem digR_at (v : Nat) : ∀ r i, i < r → (digR v r).getD i 0 = 48 + v / 10 ^ (r - 1 - i) % 10
  | 0, i, h => absurd h (Nat.not_lt_zero i)
  | r + 1, 0, _ => rfl
  | r + 1, i + 1, h => by
    have := digR_at v r i (by omega)
    show (digR v r).getD i 0 = _
    rw [this, show r + 1 - 1 - (i + 1) = r - 1 - i by omega]
section LN4
variable {h : Hp} {f : Nat → Nat → Int32} {L : List Nat} {c A : Nat}
theorem strSize_ok {v : Nat} (hv : v < 1073741824) : CL 83 [.int (nI v)] h = some (.ok (.int (nI (dsz v))), h) := by
  obtain ⟨s1, s2, s3, s4⟩ := dsz_spec hv
  have key : ∀ d k, k + d = dsz v → 1 ≤ k → k ≤ 9 → RF 83 16 [.int (-nI v), .int (nI 0), .int (-nI (10 ^ k)), .int (nI k)] [] h = some (.ok (.int (nI (dsz v))), h) := by
    intro d
    induction d with
    | zero =>
      intro k hk h1 h9
      have p := p10_le h9
      have hk : k = dsz v := hk
      rw [← hk] at s3 ⊢
      rw [e83_16]
      generalize 10 ^ k = P at *
      simp (disch := omega) only [show k < 10 by omega, lt_mm, s3, cond_true, cond_false, bI_ok, bI_er, bV_ok, bV_er, bR_ok, bR_er, bD_ok, bD_er, bF_ok, bF_er, thr_ap, cl_nI, lt_nI, le_nI, eq_nI, m1_lt, nI_m1, m1_nI, nI_lt_m1, add_nI, sub_nI, addm_nI, z_addm, z_subm, mul_nI, fit1_0, fit1_1, fit2_n, HI_wI, HK_wI, HL_wI, HR_wI, ckK_wI, chI_wI, sI_wI, wI_wI, lz0, lz1, lz2, lz3, lz4, lz5, lz6, lz7, lz8, lz9, lz10, lz12, lz13, lz16, lz17, lz20, lz21, lz23, lz26, lz30, lz32, lz35, lz40, lz45, lz48, lz57, lz58, lz59, lz60, lz61, lz63, lz64, lz97, lz99, lz100, lz110, lz111, lz126, lz129, lz132, lz133, lz166, lz169, lz255, lz999, lz1183, lz1800, Nat.reduceAdd, Nat.reduceLT, Nat.reduceEqDiff, Nat.not_lt_zero, Nat.lt_irrefl, ↓reduceIte, Nat.zero_add, Nat.add_zero, ne_eq, not_true_eq_false, not_false_eq_true, reduceCtorEq]
    | succ d ih =>
      intro k hk h1 h9
      have p := p10_le h9
      have hge := s4 (k - 1) (by omega)
      rw [Nat.sub_add_cancel h1] at hge
      by_cases q : k = 9
      · subst q
        have hd : dsz v = 10 := by omega
        rw [hd, e83_16]
        simp (disch := omega) only [lt_mm, show ¬(v < 10 ^ 9) by omega, show (9 : Nat) < 10 by decide, cond_true, cond_false, bI_ok, bI_er, bV_ok, bV_er, bR_ok, bR_er, bD_ok, bD_er, bF_ok, bF_er, thr_ap, cl_nI, lt_nI, le_nI, eq_nI, m1_lt, nI_m1, m1_nI, nI_lt_m1, add_nI, sub_nI, addm_nI, z_addm, z_subm, mul_nI, fit1_0, fit1_1, fit2_n, HI_wI, HK_wI, HL_wI, HR_wI, ckK_wI, chI_wI, sI_wI, wI_wI, lz0, lz1, lz2, lz3, lz4, lz5, lz6, lz7, lz8, lz9, lz10, lz12, lz13, lz16, lz17, lz20, lz21, lz23, lz26, lz30, lz32, lz35, lz40, lz45, lz48, lz57, lz58, lz59, lz60, lz61, lz63, lz64, lz97, lz99, lz100, lz110, lz111, lz126, lz129, lz132, lz133, lz166, lz169, lz255, lz999, lz1183, lz1800, Nat.reduceAdd, Nat.reduceLT, Nat.reduceEqDiff, Nat.not_lt_zero, Nat.lt_irrefl, ↓reduceIte, Nat.zero_add, Nat.add_zero, ne_eq, not_true_eq_false, not_false_eq_true, reduceCtorEq]
        rw [e83_16]
        simp (disch := omega) only [cond_true, cond_false, bI_ok, bI_er, bV_ok, bV_er, bR_ok, bR_er, bD_ok, bD_er, bF_ok, bF_er, thr_ap, cl_nI, lt_nI, le_nI, eq_nI, m1_lt, nI_m1, m1_nI, nI_lt_m1, add_nI, sub_nI, addm_nI, z_addm, z_subm, mul_nI, fit1_0, fit1_1, fit2_n, HI_wI, HK_wI, HL_wI, HR_wI, ckK_wI, chI_wI, sI_wI, wI_wI, lz0, lz1, lz2, lz3, lz4, lz5, lz6, lz7, lz8, lz9, lz10, lz12, lz13, lz16, lz17, lz20, lz21, lz23, lz26, lz30, lz32, lz35, lz40, lz45, lz48, lz57, lz58, lz59, lz60, lz61, lz63, lz64, lz97, lz99, lz100, lz110, lz111, lz126, lz129, lz132, lz133, lz166, lz169, lz255, lz999, lz1183, lz1800, Nat.reduceAdd, Nat.reduceLT, Nat.reduceEqDiff, Nat.not_lt_zero, Nat.lt_irrefl, ↓reduceIte, Nat.zero_add, Nat.add_zero, ne_eq, not_true_eq_false, not_false_eq_true, reduceCtorEq]
      · have e := ih (k + 1) (by omega) (by omega) (by omega)
        rw [Nat.pow_succ] at e
        rw [e83_16]
        generalize 10 ^ k = P at *
        simp (disch := omega) only [show k < 10 by omega, lt_mm, show ¬(v < P) by omega, mul_m, show 10 * P = P * 10 from Nat.mul_comm _ _, e, cond_true, cond_false, bI_ok, bI_er, bV_ok, bV_er, bR_ok, bR_er, bD_ok, bD_er, bF_ok, bF_er, thr_ap, cl_nI, lt_nI, le_nI, eq_nI, m1_lt, nI_m1, m1_nI, nI_lt_m1, add_nI, sub_nI, addm_nI, z_addm, z_subm, mul_nI, fit1_0, fit1_1, fit2_n, HI_wI, HK_wI, HL_wI, HR_wI, ckK_wI, chI_wI, sI_wI, wI_wI, lz0, lz1, lz2, lz3, lz4, lz5, lz6, lz7, lz8, lz9, lz10, lz12, lz13, lz16, lz17, lz20, lz21, lz23, lz26, lz30, lz32, lz35, lz40, lz45, lz48, lz57, lz58, lz59, lz60, lz61, lz63, lz64, lz97, lz99, lz100, lz110, lz111, lz126, lz129, lz132, lz133, lz166, lz169, lz255, lz999, lz1183, lz1800, Nat.reduceAdd, Nat.reduceLT, Nat.reduceEqDiff, Nat.not_lt_zero, Nat.lt_irrefl, ↓reduceIte, Nat.zero_add, Nat.add_zero, ne_eq, not_true_eq_false, not_false_eq_true, reduceCtorEq]
  have e := key (dsz v - 1) 1 (by omega) (by decide) (by decide)
  rw [show 10 ^ 1 = 10 from rfl] at e
  rw [e83]
  simp (disch := omega) only [neg_nI, e, cond_true, cond_false, bI_ok, bI_er, bV_ok, bV_er, bR_ok, bR_er, bD_ok, bD_er, bF_ok, bF_er, thr_ap, cl_nI, lt_nI, le_nI, eq_nI, m1_lt, nI_m1, m1_nI, nI_lt_m1, add_nI, sub_nI, addm_nI, z_addm, z_subm, mul_nI, fit1_0, fit1_1, fit2_n, HI_wI, HK_wI, HL_wI, HR_wI, ckK_wI, chI_wI, sI_wI, wI_wI, lz0, lz1, lz2, lz3, lz4, lz5, lz6, lz7, lz8, lz9, lz10, lz12, lz13, lz16, lz17, lz20, lz21, lz23, lz26, lz30, lz32, lz35, lz40, lz45, lz48, lz57, lz58, lz59, lz60, lz61, lz63, lz64, lz97, lz99, lz100, lz110, lz111, lz126, lz129, lz132, lz133, lz166, lz169, lz255, lz999, lz1183, lz1800, Nat.reduceAdd, Nat.reduceLT, Nat.reduceEqDiff, Nat.not_lt_zero, Nat.lt_irrefl, ↓reduceIte, Nat.zero_add, Nat.add_zero, ne_eq, not_true_eq_false, not_false_eq_true, reduceCtorEq]
theorem ones_ok {g : Nat → Nat → Int32} (K : KoS h) (F : Ko g) {r : Nat} (hr : r < 100) : chI h 2 203 (nI r) = true ∧ g 2 r = nI (48 + r % 10) ∧ chI h 3 203 (nI r) = true ∧ g 3 r = nI (48 + r / 10) := by
  have k2 : h.2.1 2 = (203, 100) := (K 2 (by decide) (by decide)).1
  have k3 : h.2.1 3 = (203, 100) := (K 3 (by decide) (by decide)).1
  exact ⟨chI_nI (congrArg Prod.fst k2) (congrArg Prod.snd k2) hr (by decide), F 2 (by decide) (by decide) r, chI_nI (congrArg Prod.fst k3) (congrArg Prod.snd k3) hr (by decide), F 3 (by decide) (by decide) r⟩
theorem fit3_n {n : Nat} (h : n < 128) : fitc 3 (nI n) = true := (i2b_nI n h).2
theorem getChars_ok (K : KoS h) {cap : Nat} (hA : HK h A = 102 ∧ HL h A = cap) (hcap : cap ≤ 1000) (hA4 : 4 ≤ A) (hA30 : 31 ≤ A) (a1 : Int32) : ∀ (n w pos : Nat) (g : Nat → Nat → Int32) (v3 v4 : Value), w ≤ n → w < 1073741824 → Ko g → dsz w ≤ pos → pos ≤ cap → ∃ g', RF 84 22 [.int (-nI w), .int a1, .ref A, v3, v4, .int (nI pos), .int (nI 0)] [] (wI h g) = some (.ok (.int (nI (pos - dsz w))), wI h g') ∧ (∀ j, j < dsz w → g' A (pos - 1 - j) = nI (48 + w / 10 ^ j % 10)) ∧ ∀ a y, ¬(a = A ∧ pos - dsz w ≤ y ∧ y < pos) → g' a y = g a y := by
  intro n
  induction n with
  | zero =>
    intro w pos g v3 v4 hw hb F h1 h2
    have e0 : w = 0 := by omega
    subst e0
    have ed : dsz 0 = 1 := dsz_1 (by decide)
    rw [ed] at h1 ⊢
    obtain ⟨t1, t2, _, _⟩ := ones_ok K F (r := 0) (by decide)
    refine ⟨u2 g A (pos - 1) (nI 48), ?_, fun j hj => ?_, fun a y q => w2_ne (by omega)⟩
    · have hc : chI h A 102 (nI (pos - 1)) = true := chI_nI hA.1 hA.2 (by omega) (by omega)
      rw [e84_22]
      simp (disch := omega) only [lt_mm, show (0 : Nat) < 100 by decide, Int32.neg_neg, t1, t2, addm_nI, hc, fit3_n, Bool.and_true, show ¬(9 < 0) by decide, Nat.zero_mod, cond_true, cond_false, bI_ok, bI_er, bV_ok, bV_er, bR_ok, bR_er, bD_ok, bD_er, bF_ok, bF_er, thr_ap, cl_nI, lt_nI, le_nI, eq_nI, m1_lt, nI_m1, m1_nI, nI_lt_m1, add_nI, sub_nI, addm_nI, z_addm, z_subm, mul_nI, fit1_0, fit1_1, fit2_n, HI_wI, HK_wI, HL_wI, HR_wI, ckK_wI, chI_wI, sI_wI, wI_wI, lz0, lz1, lz2, lz3, lz4, lz5, lz6, lz7, lz8, lz9, lz10, lz12, lz13, lz16, lz17, lz20, lz21, lz23, lz26, lz30, lz32, lz35, lz40, lz45, lz48, lz57, lz58, lz59, lz60, lz61, lz63, lz64, lz97, lz99, lz100, lz110, lz111, lz126, lz129, lz132, lz133, lz166, lz169, lz255, lz999, lz1183, lz1800, Nat.reduceAdd, Nat.reduceLT, Nat.reduceEqDiff, Nat.not_lt_zero, Nat.lt_irrefl, ↓reduceIte, Nat.zero_add, Nat.add_zero, ne_eq, not_true_eq_false, not_false_eq_true, reduceCtorEq]
    · have : j = 0 := by omega
      subst this
      rw [Nat.sub_zero, w2_eq]
  | succ n ih =>
    intro w pos g v3 v4 hw hb F h1 h2
    by_cases q : w < 10
    · have ed := dsz_1 q
      rw [ed] at h1 ⊢
      obtain ⟨t1, t2, _, _⟩ := ones_ok K F (r := w) (by omega)
      refine ⟨u2 g A (pos - 1) (nI (48 + w % 10)), ?_, fun j hj => ?_, fun a y q => w2_ne (by omega)⟩
      · have hc : chI h A 102 (nI (pos - 1)) = true := chI_nI hA.1 hA.2 (by omega) (by omega)
        rw [e84_22]
        simp (disch := omega) only [lt_mm, show w < 100 by omega, Int32.neg_neg, t1, t2, addm_nI, hc, fit3_n, Bool.and_true, show ¬(9 < w) by omega, cond_true, cond_false, bI_ok, bI_er, bV_ok, bV_er, bR_ok, bR_er, bD_ok, bD_er, bF_ok, bF_er, thr_ap, cl_nI, lt_nI, le_nI, eq_nI, m1_lt, nI_m1, m1_nI, nI_lt_m1, add_nI, sub_nI, addm_nI, z_addm, z_subm, mul_nI, fit1_0, fit1_1, fit2_n, HI_wI, HK_wI, HL_wI, HR_wI, ckK_wI, chI_wI, sI_wI, wI_wI, lz0, lz1, lz2, lz3, lz4, lz5, lz6, lz7, lz8, lz9, lz10, lz12, lz13, lz16, lz17, lz20, lz21, lz23, lz26, lz30, lz32, lz35, lz40, lz45, lz48, lz57, lz58, lz59, lz60, lz61, lz63, lz64, lz97, lz99, lz100, lz110, lz111, lz126, lz129, lz132, lz133, lz166, lz169, lz255, lz999, lz1183, lz1800, Nat.reduceAdd, Nat.reduceLT, Nat.reduceEqDiff, Nat.not_lt_zero, Nat.lt_irrefl, ↓reduceIte, Nat.zero_add, Nat.add_zero, ne_eq, not_true_eq_false, not_false_eq_true, reduceCtorEq]
      · have : j = 0 := by omega
        subst this
        rw [Nat.sub_zero, w2_eq, Nat.pow_zero, Nat.div_one]
    · by_cases q2 : w < 100
      · have ed := dsz_2 (by omega) q2
        rw [ed] at h1 ⊢
        obtain ⟨t1, t2, t3, t4⟩ := ones_ok K F (r := w) (by omega)
        refine ⟨u2 (u2 g A (pos - 1) (nI (48 + w % 10))) A (pos - 1 - 1) (nI (48 + w / 10)), ?_, fun j hj => ?_, fun a y q => by rw [w2_ne (by omega), w2_ne (by omega)]⟩
        · have hc : chI h A 102 (nI (pos - 1)) = true := chI_nI hA.1 hA.2 (by omega) (by omega)
          have hc2 : chI h A 102 (nI (pos - 1 - 1)) = true := chI_nI hA.1 hA.2 (by omega) (by omega)
          have t4' : u2 g A (pos - 1) (nI (48 + w % 10)) 3 w = nI (48 + w / 10) := (w2_ne (by omega)).trans t4
          rw [e84_22]
          simp (disch := omega) only [lt_mm, q2, Int32.neg_neg, t1, t2, t3, t4', addm_nI, hc, hc2, fit3_n, Bool.and_true, show 9 < w by omega, cond_true, cond_false, bI_ok, bI_er, bV_ok, bV_er, bR_ok, bR_er, bD_ok, bD_er, bF_ok, bF_er, thr_ap, cl_nI, lt_nI, le_nI, eq_nI, m1_lt, nI_m1, m1_nI, nI_lt_m1, add_nI, sub_nI, addm_nI, z_addm, z_subm, mul_nI, fit1_0, fit1_1, fit2_n, HI_wI, HK_wI, HL_wI, HR_wI, ckK_wI, chI_wI, sI_wI, wI_wI, lz0, lz1, lz2, lz3, lz4, lz5, lz6, lz7, lz8, lz9, lz10, lz12, lz13, lz16, lz17, lz20, lz21, lz23, lz26, lz30, lz32, lz35, lz40, lz45, lz48, lz57, lz58, lz59, lz60, lz61, lz63, lz64, lz97, lz99, lz100, lz110, lz111, lz126, lz129, lz132, lz133, lz166, lz169, lz255, lz999, lz1183, lz1800, Nat.reduceAdd, Nat.reduceLT, Nat.reduceEqDiff, Nat.not_lt_zero, Nat.lt_irrefl, ↓reduceIte, Nat.zero_add, Nat.add_zero, ne_eq, not_true_eq_false, not_false_eq_true, reduceCtorEq]
          rw [show pos - 1 - 1 = pos - 2 by omega]
        · by_cases z : j = 0
          · subst z
            rw [w2_ne (by omega), Nat.sub_zero, w2_eq, Nat.pow_zero, Nat.div_one]
          · have : j = 1 := by omega
            subst this
            rw [w2_eq, show 10 ^ 1 = 10 from rfl]
            congr 1
            omega
      · have ed := dsz_h (by omega) hb
        have hr : w % 100 < 100 := Nat.mod_lt _ (by decide)
        obtain ⟨t1, t2, t3, t4⟩ := ones_ok K F (r := w % 100) hr
        have er : w - w / 100 * 100 = w % 100 := by omega
        have hs1 := dsz_spec (v := w / 100) (by omega)
        rw [ed] at h1 ⊢
        have F2 : Ko (u2 (u2 g A (pos - 1) (nI (48 + w % 100 % 10))) A (pos - 1 - 1) (nI (48 + w % 100 / 10))) := F.fr (fun a y ha => by rw [w2_ne (by omega), w2_ne (by omega)])
        obtain ⟨g', k1, k2, k3⟩ := ih (w / 100) (pos - 1 - 1) _ (.int (-nI (w / 100))) (.int (nI (w % 100))) (by omega) (by omega) F2 (by omega) (by omega)
        refine ⟨g', ?_, fun j hj => ?_, fun a y q => ?_⟩
        · have hc : chI h A 102 (nI (pos - 1)) = true := chI_nI hA.1 hA.2 (by omega) (by omega)
          have hc2 : chI h A 102 (nI (pos - 1 - 1)) = true := chI_nI hA.1 hA.2 (by omega) (by omega)
          have t4' : u2 g A (pos - 1) (nI (48 + w % 100 % 10)) 3 (w % 100) = nI (48 + w % 100 / 10) := (w2_ne (by omega)).trans t4
          rw [e84_22]
          simp (disch := omega) only [lt_mm, q2, m_div, m_mul, m_subm, er, t1, t2, t3, t4', addm_nI, hc, hc2, fit3_n, Bool.and_true, show ¬(100 = 0) by decide, k1, show pos - 1 - 1 - dsz (w / 100) = pos - (dsz (w / 100) + 2) by omega, cond_true, cond_false, bI_ok, bI_er, bV_ok, bV_er, bR_ok, bR_er, bD_ok, bD_er, bF_ok, bF_er, thr_ap, cl_nI, lt_nI, le_nI, eq_nI, m1_lt, nI_m1, m1_nI, nI_lt_m1, add_nI, sub_nI, addm_nI, z_addm, z_subm, mul_nI, fit1_0, fit1_1, fit2_n, HI_wI, HK_wI, HL_wI, HR_wI, ckK_wI, chI_wI, sI_wI, wI_wI, lz0, lz1, lz2, lz3, lz4, lz5, lz6, lz7, lz8, lz9, lz10, lz12, lz13, lz16, lz17, lz20, lz21, lz23, lz26, lz30, lz32, lz35, lz40, lz45, lz48, lz57, lz58, lz59, lz60, lz61, lz63, lz64, lz97, lz99, lz100, lz110, lz111, lz126, lz129, lz132, lz133, lz166, lz169, lz255, lz999, lz1183, lz1800, Nat.reduceAdd, Nat.reduceLT, Nat.reduceEqDiff, Nat.not_lt_zero, Nat.lt_irrefl, ↓reduceIte, Nat.zero_add, Nat.add_zero, ne_eq, not_true_eq_false, not_false_eq_true, reduceCtorEq]
        · by_cases z : j = 0
          · subst z
            rw [k3 A _ (by omega), w2_ne (by omega), Nat.sub_zero, w2_eq, Nat.pow_zero, Nat.div_one]
            congr 1
            omega
          · by_cases z1 : j = 1
            · subst z1
              rw [k3 A _ (by omega), w2_eq, show 10 ^ 1 = 10 from rfl]
              congr 1
              omega
            · have e := k2 (j - 2) (by omega)
              rw [show pos - 1 - 1 - 1 - (j - 2) = pos - 1 - j by omega, Nat.div_div_eq_div_mul] at e
              rw [e, show j = 2 + (j - 2) by omega, Nat.pow_add, show 2 + (j - 2) - 2 = j - 2 by omega]
        · rw [k3 a y (by omega), w2_ne (by omega), w2_ne (by omega)]
end LN4
