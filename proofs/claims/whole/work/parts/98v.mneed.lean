/-! MATCHINGS AND PAIRS ASKED FOR -/
/-- how many possible pairs two sources have -/
def pcA (A : AF) (s o : Nat) : Nat := sumN (fun k => sumN (fun k' => b2n (ppA A s k o k')) 1000) 1000
theorem pp_z1 {A : AF} {s k o k' : Nat} (h : A s k = 0) : ppA A s k o k' = false := by
  unfold ppA
  exact decide_eq_false (by omega)
theorem pp_z2 {A : AF} {s k o k' : Nat} (h : A o k' = 0) : ppA A s k o k' = false := by
  unfold ppA
  exact decide_eq_false (by omega)
section MG
variable {h : Hp} {b : Bk} {A D : AF}
theorem po_le (x : Int32) : po x ≤ 32 := by
  have := sumN_bd (f := fun i => b2n (bt x i)) (n := 32) (b := 1) (fun i _ => b2n_le _)
  unfold po
  omega
theorem pairCount_ok (M : MgS h) {n : Nat} {f : Nat → Nat → Int32} (n30 : n ≤ 30) (h7 : f 227 7 = nI n) : CL 148 [.ref 227] (wI h f) = some (.ok (.int (nI (sumN (fun i => po (f 228 i)) n))), wI h f) := by
  rw [e148]
  refine (lpUp (F := fun i => RF 148 4 [.ref 227, .int (nI (sumN (fun i => po (f 228 i)) i)), .int (nI i)] [] (wI h f)) (Nat.zero_le n) (fun i _ hi => ?_)).trans ?_
  · have hb := bitCount_ok (h := wI h f) (f 228 i)
    rw [e148_4]
    simp (disch := omega) only [M.f, M.c (show i < 30 by omega), h7, hi, hb, sumN, cond_true, cond_false, bI_ok, bI_er, bV_ok, bV_er, bR_ok, bR_er, bD_ok, bD_er, bF_ok, bF_er, thr_ap, cl_nI, lt_nI, le_nI, eq_nI, m1_lt, nI_m1, m1_nI, nI_lt_m1, add_nI, sub_nI, addm_nI, z_addm, z_subm, mul_nI, fit1_0, fit1_1, fit2_n, HI_wI, HK_wI, HL_wI, HR_wI, ckK_wI, chI_wI, sI_wI, wI_wI, lz0, lz1, lz2, lz3, lz4, lz5, lz6, lz7, lz8, lz9, lz10, lz12, lz13, lz16, lz17, lz20, lz21, lz23, lz26, lz30, lz32, lz35, lz40, lz45, lz48, lz57, lz58, lz59, lz60, lz61, lz63, lz64, lz97, lz99, lz100, lz110, lz111, lz126, lz129, lz132, lz133, lz166, lz169, lz255, lz999, lz1183, lz1800, Nat.reduceAdd, Nat.reduceLT, Nat.reduceEqDiff, Nat.not_lt_zero, Nat.lt_irrefl, ↓reduceIte, Nat.zero_add, Nat.add_zero, ne_eq, not_true_eq_false, not_false_eq_true, reduceCtorEq]
  · rw [e148_4]
    simp (disch := omega) only [M.f, h7, cond_true, cond_false, bI_ok, bI_er, bV_ok, bV_er, bR_ok, bR_er, bD_ok, bD_er, bF_ok, bF_er, thr_ap, cl_nI, lt_nI, le_nI, eq_nI, m1_lt, nI_m1, m1_nI, nI_lt_m1, add_nI, sub_nI, addm_nI, z_addm, z_subm, mul_nI, fit1_0, fit1_1, fit2_n, HI_wI, HK_wI, HL_wI, HR_wI, ckK_wI, chI_wI, sI_wI, wI_wI, lz0, lz1, lz2, lz3, lz4, lz5, lz6, lz7, lz8, lz9, lz10, lz12, lz13, lz16, lz17, lz20, lz21, lz23, lz26, lz30, lz32, lz35, lz40, lz45, lz48, lz57, lz58, lz59, lz60, lz61, lz63, lz64, lz97, lz99, lz100, lz110, lz111, lz126, lz129, lz132, lz133, lz166, lz169, lz255, lz999, lz1183, lz1800, Nat.reduceAdd, Nat.reduceLT, Nat.reduceEqDiff, Nat.not_lt_zero, Nat.lt_irrefl, ↓reduceIte, Nat.zero_add, Nat.add_zero, ne_eq, not_true_eq_false, not_false_eq_true, reduceCtorEq]
theorem pairs_key {t : Nat} {f g : Nat → Nat → Int32} (R : RT f t A D) {s o : Nat} (hs : s < 3) (ho : o < 3) (hg : ∀ i j, i < tn f t → j < 32 → bt (g 228 i) j = er A f t s o i j) : sumN (fun i => po (g 228 i)) (tn f t) = pcA A s o := by
  have n30 := R.n30
  unfold pcA
  refine R.sum (fun i hi => ?_) (fun k _ h0 h1 h2 => ?_)
  · have e : po (g 228 i) = sumN (fun j => b2n (er A f t s o i j)) (tn f t) := by
      unfold po
      rw [sumN_eq (g := fun j => b2n (er A f t s o i j)) (fun j hj => by rw [hg i j hi hj])]
      exact sumN_cut (by omega) (fun j h1 h2 => by
        unfold er
        rw [decide_eq_false (by omega)]
        rfl)
    rw [e]
    refine R.sum (F := fun k' => b2n (ppA A s (tk f t i) o k')) (fun j hj => ?_) (fun k' _ h0 h1 h2 => ?_)
    · unfold er
      rw [decide_eq_true ⟨hi, hj⟩, Bool.true_and]
    · have : A o k' = 0 := by
        have : o = 0 ∨ o = 1 ∨ o = 2 := by omega
        rcases this with rfl | rfl | rfl <;> assumption
      rw [pp_z2 this]
      rfl
  · have : A s k = 0 := by
      have : s = 0 ∨ s = 1 ∨ s = 2 := by omega
      rcases this with rfl | rfl | rfl <;> assumption
    exact sumN_0 (fun k' _ => by rw [pp_z1 this]; rfl)
theorem pairsC_t (S : RrS h) (M : MgS h) (R : RK (HI h) 32 b) {s o : Nat} (hs : s < 3) (ho : o < 3) (hso : s ≠ o) : ∃ f', CL 149 [.ref 31, .int (nI (97 + s)), .int (nI (97 + o))] h = some (.ok (.int (nI (pcA (kA b) s o))), wI h f') ∧ Fm (HI h) f' := by
  have Rt : RT (HI h) 33 (kA b) (kD b) := R.t
  have n30 := Rt.n30
  have t1 := (tb33 S).2
  obtain ⟨g, g1, ⟨g2, g3, g4⟩, g5⟩ := load33 S M Rt hs ho hso
  rw [wI_HI] at g1
  have hp := pairCount_ok M (f := g) (by omega) g2
  rw [pairs_key Rt hs ho g3] at hp
  refine ⟨g, ?_, g5⟩
  rw [e149]
  simp (disch := omega) only [S.f, S.ks, M.f, t1, rqS_t hs, rqO_t hs ho hso, g1, hp, cond_true, cond_false, bI_ok, bI_er, bV_ok, bV_er, bR_ok, bR_er, bD_ok, bD_er, bF_ok, bF_er, thr_ap, cl_nI, lt_nI, le_nI, eq_nI, m1_lt, nI_m1, m1_nI, nI_lt_m1, add_nI, sub_nI, addm_nI, z_addm, z_subm, mul_nI, fit1_0, fit1_1, fit2_n, HI_wI, HK_wI, HL_wI, HR_wI, ckK_wI, chI_wI, sI_wI, wI_wI, lz0, lz1, lz2, lz3, lz4, lz5, lz6, lz7, lz8, lz9, lz10, lz12, lz13, lz16, lz17, lz20, lz21, lz23, lz26, lz30, lz32, lz35, lz40, lz45, lz48, lz57, lz58, lz59, lz60, lz61, lz63, lz64, lz97, lz99, lz100, lz110, lz111, lz126, lz129, lz132, lz133, lz166, lz169, lz255, lz999, lz1183, lz1800, Nat.reduceAdd, Nat.reduceLT, Nat.reduceEqDiff, Nat.not_lt_zero, Nat.lt_irrefl, ↓reduceIte, Nat.zero_add, Nat.add_zero, ne_eq, not_true_eq_false, not_false_eq_true, reduceCtorEq]
theorem pairsC_f (S : RrS h) {x y : Int32} (hb : two x y = false) : CL 149 [.ref 31, .int x, .int y] h = some (.error 1, hthr h) := by
  rw [e149]
  cases q0 : inr 97 99 x with
  | false => simp only [rqS_f q0, cond_true, cond_false, bI_ok, bI_er, bV_ok, bV_er, bR_ok, bR_er, bD_ok, bD_er, bF_ok, bF_er, thr_ap, cl_nI, lt_nI, le_nI, eq_nI, m1_lt, nI_m1, m1_nI, nI_lt_m1, add_nI, sub_nI, addm_nI, z_addm, z_subm, mul_nI, fit1_0, fit1_1, fit2_n, HI_wI, HK_wI, HL_wI, HR_wI, ckK_wI, chI_wI, sI_wI, wI_wI, lz0, lz1, lz2, lz3, lz4, lz5, lz6, lz7, lz8, lz9, lz10, lz12, lz13, lz16, lz17, lz20, lz21, lz23, lz26, lz30, lz32, lz35, lz40, lz45, lz48, lz57, lz58, lz59, lz60, lz61, lz63, lz64, lz97, lz99, lz100, lz110, lz111, lz126, lz129, lz132, lz133, lz166, lz169, lz255, lz999, lz1183, lz1800, Nat.reduceAdd, Nat.reduceLT, Nat.reduceEqDiff, Nat.not_lt_zero, Nat.lt_irrefl, ↓reduceIte, Nat.zero_add, Nat.add_zero, ne_eq, not_true_eq_false, not_false_eq_true, reduceCtorEq]
  | true =>
    obtain ⟨i, i1, i2, rfl⟩ := inr_t (by decide) (by decide) q0
    have h1 := rqS_t (h := h) (s := i - 97) (by omega)
    rw [show 97 + (i - 97) = i by omega] at h1
    simp only [S.f, S.ks, h1, rqO_f hb q0, cond_true, cond_false, bI_ok, bI_er, bV_ok, bV_er, bR_ok, bR_er, bD_ok, bD_er, bF_ok, bF_er, thr_ap, cl_nI, lt_nI, le_nI, eq_nI, m1_lt, nI_m1, m1_nI, nI_lt_m1, add_nI, sub_nI, addm_nI, z_addm, z_subm, mul_nI, fit1_0, fit1_1, fit2_n, HI_wI, HK_wI, HL_wI, HR_wI, ckK_wI, chI_wI, sI_wI, wI_wI, lz0, lz1, lz2, lz3, lz4, lz5, lz6, lz7, lz8, lz9, lz10, lz12, lz13, lz16, lz17, lz20, lz21, lz23, lz26, lz30, lz32, lz35, lz40, lz45, lz48, lz57, lz58, lz59, lz60, lz61, lz63, lz64, lz97, lz99, lz100, lz110, lz111, lz126, lz129, lz132, lz133, lz166, lz169, lz255, lz999, lz1183, lz1800, Nat.reduceAdd, Nat.reduceLT, Nat.reduceEqDiff, Nat.not_lt_zero, Nat.lt_irrefl, ↓reduceIte, Nat.zero_add, Nat.add_zero, ne_eq, not_true_eq_false, not_false_eq_true, reduceCtorEq]
def cM (A : AF) (g : Nat → Int32) (x y : Int32) (i j : Nat) : Bool := decide (nI (97 + ms g i) = x) && (decide (nI (97 + ms g j) = y) && ppA A (ms g i) (mk g i) (ms g j) (mk g j))
theorem pairsM_go (S : MdS h) (R : RM (HI h 242) A D) (x y : Int32) : ∃ v, CL 286 [.ref 241, .int x, .int y] h = RF 286 5 [.ref 241, .int x, .int y, .int (nI (sumN (fun i => sumN (fun j => b2n (cM A (HI h 242) x y i j)) (tot A)) (tot A))), .int (nI (tot A)), v] [] h := by
  have m30 := R.m30
  obtain ⟨v, hv, _⟩ := lpEx (β := Value) (n := tot A) (x0 := Value.null) (P := fun _ _ => True) (F := fun i v => RF 286 5 [.ref 241, .int x, .int y, .int (nI (sumN (fun i => sumN (fun j => b2n (cM A (HI h 242) x y i j)) (tot A)) i)), .int (nI i), v] [] h) trivial (fun i v hi _ => by
    have hsi := of_s S R hi
    refine ⟨.int (nI (tot A)), ?_, trivial⟩
    have hin := lpUp (F := fun j => RF 286 19 [.ref 241, .int x, .int y, .int (nI (sumN (fun i => sumN (fun j => b2n (cM A (HI h 242) x y i j)) (tot A)) i + sumN (fun j => b2n (cM A (HI h 242) x y i j)) j)), .int (nI i), .int (nI j)] [] h) (Nat.zero_le (tot A)) (fun j _ hj => by
      have hsj := of_s S R hj
      have hp := isPair_ok S R hi hj
      have hc : cM A (HI h 242) x y i j = (decide (nI (97 + ms (HI h 242) i) = x) && (decide (nI (97 + ms (HI h 242) j) = y) && ppA A (ms (HI h 242) i) (mk (HI h 242) i) (ms (HI h 242) j) (mk (HI h 242) j))) := rfl
      rw [e286_19]
      by_cases q1 : nI (97 + ms (HI h 242) i) = x
      · by_cases q2 : nI (97 + ms (HI h 242) j) = y
        · cases q3 : ppA A (ms (HI h 242) i) (mk (HI h 242) i) (ms (HI h 242) j) (mk (HI h 242) j) with
          | true =>
            rw [q3, b2t] at hp
            rw [decide_eq_true q1, decide_eq_true q2, q3] at hc
            simp (disch := omega) only [S.f, S.cw (show 1 < 169 by decide), R.m, hj, hsi, hsj, q1, q2, hp, sumN, hc, Bool.and_self, b2t, Nat.add_assoc, Nat.succ_ne_self, cond_true, cond_false, bI_ok, bI_er, bV_ok, bV_er, bR_ok, bR_er, bD_ok, bD_er, bF_ok, bF_er, thr_ap, cl_nI, lt_nI, le_nI, eq_nI, m1_lt, nI_m1, m1_nI, nI_lt_m1, add_nI, sub_nI, addm_nI, z_addm, z_subm, mul_nI, fit1_0, fit1_1, fit2_n, HI_wI, HK_wI, HL_wI, HR_wI, ckK_wI, chI_wI, sI_wI, wI_wI, lz0, lz1, lz2, lz3, lz4, lz5, lz6, lz7, lz8, lz9, lz10, lz12, lz13, lz16, lz17, lz20, lz21, lz23, lz26, lz30, lz32, lz35, lz40, lz45, lz48, lz57, lz58, lz59, lz60, lz61, lz63, lz64, lz97, lz99, lz100, lz110, lz111, lz126, lz129, lz132, lz133, lz166, lz169, lz255, lz999, lz1183, lz1800, Nat.reduceAdd, Nat.reduceLT, Nat.reduceEqDiff, Nat.not_lt_zero, Nat.lt_irrefl, ↓reduceIte, Nat.zero_add, Nat.add_zero, ne_eq, not_true_eq_false, not_false_eq_true, reduceCtorEq]
          | false =>
            rw [q3, b2f] at hp
            rw [q3, Bool.and_false, Bool.and_false] at hc
            simp (disch := omega) only [S.f, S.cw (show 1 < 169 by decide), R.m, hj, hsi, hsj, q1, q2, hp, sumN, hc, b2f, Nat.add_assoc, cond_true, cond_false, bI_ok, bI_er, bV_ok, bV_er, bR_ok, bR_er, bD_ok, bD_er, bF_ok, bF_er, thr_ap, cl_nI, lt_nI, le_nI, eq_nI, m1_lt, nI_m1, m1_nI, nI_lt_m1, add_nI, sub_nI, addm_nI, z_addm, z_subm, mul_nI, fit1_0, fit1_1, fit2_n, HI_wI, HK_wI, HL_wI, HR_wI, ckK_wI, chI_wI, sI_wI, wI_wI, lz0, lz1, lz2, lz3, lz4, lz5, lz6, lz7, lz8, lz9, lz10, lz12, lz13, lz16, lz17, lz20, lz21, lz23, lz26, lz30, lz32, lz35, lz40, lz45, lz48, lz57, lz58, lz59, lz60, lz61, lz63, lz64, lz97, lz99, lz100, lz110, lz111, lz126, lz129, lz132, lz133, lz166, lz169, lz255, lz999, lz1183, lz1800, Nat.reduceAdd, Nat.reduceLT, Nat.reduceEqDiff, Nat.not_lt_zero, Nat.lt_irrefl, ↓reduceIte, Nat.zero_add, Nat.add_zero, ne_eq, not_true_eq_false, not_false_eq_true, reduceCtorEq]
        · rw [decide_eq_false q2, Bool.false_and, Bool.and_false] at hc
          simp (disch := omega) only [S.f, S.cw (show 1 < 169 by decide), R.m, hj, hsi, hsj, q1, q2, sumN, hc, b2f, Nat.add_assoc, cond_true, cond_false, bI_ok, bI_er, bV_ok, bV_er, bR_ok, bR_er, bD_ok, bD_er, bF_ok, bF_er, thr_ap, cl_nI, lt_nI, le_nI, eq_nI, m1_lt, nI_m1, m1_nI, nI_lt_m1, add_nI, sub_nI, addm_nI, z_addm, z_subm, mul_nI, fit1_0, fit1_1, fit2_n, HI_wI, HK_wI, HL_wI, HR_wI, ckK_wI, chI_wI, sI_wI, wI_wI, lz0, lz1, lz2, lz3, lz4, lz5, lz6, lz7, lz8, lz9, lz10, lz12, lz13, lz16, lz17, lz20, lz21, lz23, lz26, lz30, lz32, lz35, lz40, lz45, lz48, lz57, lz58, lz59, lz60, lz61, lz63, lz64, lz97, lz99, lz100, lz110, lz111, lz126, lz129, lz132, lz133, lz166, lz169, lz255, lz999, lz1183, lz1800, Nat.reduceAdd, Nat.reduceLT, Nat.reduceEqDiff, Nat.not_lt_zero, Nat.lt_irrefl, ↓reduceIte, Nat.zero_add, Nat.add_zero, ne_eq, not_true_eq_false, not_false_eq_true, reduceCtorEq]
      · rw [decide_eq_false q1, Bool.false_and] at hc
        simp (disch := omega) only [S.f, S.cw (show 1 < 169 by decide), R.m, hj, hsi, q1, sumN, hc, b2f, Nat.add_assoc, cond_true, cond_false, bI_ok, bI_er, bV_ok, bV_er, bR_ok, bR_er, bD_ok, bD_er, bF_ok, bF_er, thr_ap, cl_nI, lt_nI, le_nI, eq_nI, m1_lt, nI_m1, m1_nI, nI_lt_m1, add_nI, sub_nI, addm_nI, z_addm, z_subm, mul_nI, fit1_0, fit1_1, fit2_n, HI_wI, HK_wI, HL_wI, HR_wI, ckK_wI, chI_wI, sI_wI, wI_wI, lz0, lz1, lz2, lz3, lz4, lz5, lz6, lz7, lz8, lz9, lz10, lz12, lz13, lz16, lz17, lz20, lz21, lz23, lz26, lz30, lz32, lz35, lz40, lz45, lz48, lz57, lz58, lz59, lz60, lz61, lz63, lz64, lz97, lz99, lz100, lz110, lz111, lz126, lz129, lz132, lz133, lz166, lz169, lz255, lz999, lz1183, lz1800, Nat.reduceAdd, Nat.reduceLT, Nat.reduceEqDiff, Nat.not_lt_zero, Nat.lt_irrefl, ↓reduceIte, Nat.zero_add, Nat.add_zero, ne_eq, not_true_eq_false, not_false_eq_true, reduceCtorEq])
    have e1 : RF 286 5 [.ref 241, .int x, .int y, .int (nI (sumN (fun i => sumN (fun j => b2n (cM A (HI h 242) x y i j)) (tot A)) i)), .int (nI i), v] [] h = RF 286 19 [.ref 241, .int x, .int y, .int (nI (sumN (fun i => sumN (fun j => b2n (cM A (HI h 242) x y i j)) (tot A)) i + sumN (fun j => b2n (cM A (HI h 242) x y i j)) 0)), .int (nI i), .int (nI 0)] [] h := by
      rw [e286_5]
      simp (disch := omega) only [S.f, S.cw (show 1 < 169 by decide), R.m, hi, sumN, cond_true, cond_false, bI_ok, bI_er, bV_ok, bV_er, bR_ok, bR_er, bD_ok, bD_er, bF_ok, bF_er, thr_ap, cl_nI, lt_nI, le_nI, eq_nI, m1_lt, nI_m1, m1_nI, nI_lt_m1, add_nI, sub_nI, addm_nI, z_addm, z_subm, mul_nI, fit1_0, fit1_1, fit2_n, HI_wI, HK_wI, HL_wI, HR_wI, ckK_wI, chI_wI, sI_wI, wI_wI, lz0, lz1, lz2, lz3, lz4, lz5, lz6, lz7, lz8, lz9, lz10, lz12, lz13, lz16, lz17, lz20, lz21, lz23, lz26, lz30, lz32, lz35, lz40, lz45, lz48, lz57, lz58, lz59, lz60, lz61, lz63, lz64, lz97, lz99, lz100, lz110, lz111, lz126, lz129, lz132, lz133, lz166, lz169, lz255, lz999, lz1183, lz1800, Nat.reduceAdd, Nat.reduceLT, Nat.reduceEqDiff, Nat.not_lt_zero, Nat.lt_irrefl, ↓reduceIte, Nat.zero_add, Nat.add_zero, ne_eq, not_true_eq_false, not_false_eq_true, reduceCtorEq]
    rw [e1]
    refine hin.trans ?_
    rw [e286_19]
    simp (disch := omega) only [S.f, S.cw (show 1 < 169 by decide), R.m, sumN, cond_true, cond_false, bI_ok, bI_er, bV_ok, bV_er, bR_ok, bR_er, bD_ok, bD_er, bF_ok, bF_er, thr_ap, cl_nI, lt_nI, le_nI, eq_nI, m1_lt, nI_m1, m1_nI, nI_lt_m1, add_nI, sub_nI, addm_nI, z_addm, z_subm, mul_nI, fit1_0, fit1_1, fit2_n, HI_wI, HK_wI, HL_wI, HR_wI, ckK_wI, chI_wI, sI_wI, wI_wI, lz0, lz1, lz2, lz3, lz4, lz5, lz6, lz7, lz8, lz9, lz10, lz12, lz13, lz16, lz17, lz20, lz21, lz23, lz26, lz30, lz32, lz35, lz40, lz45, lz48, lz57, lz58, lz59, lz60, lz61, lz63, lz64, lz97, lz99, lz100, lz110, lz111, lz126, lz129, lz132, lz133, lz166, lz169, lz255, lz999, lz1183, lz1800, Nat.reduceAdd, Nat.reduceLT, Nat.reduceEqDiff, Nat.not_lt_zero, Nat.lt_irrefl, ↓reduceIte, Nat.zero_add, Nat.add_zero, ne_eq, not_true_eq_false, not_false_eq_true, reduceCtorEq])
  refine ⟨v, ?_⟩
  rw [e286]
  exact hv
theorem pairsM_f (S : MdS h) (R : RM (HI h 242) A D) {x y : Int32} (hb : two x y = false) : CL 286 [.ref 241, .int x, .int y] h = some (.ok (.int (nI 0)), tH h 1) := by
  have m30 := R.m30
  obtain ⟨v, hgo⟩ := pairsM_go S R x y
  have ht := areTwo_ok (h := h) x y
  rw [hb, b2f] at ht
  rw [hgo, e286_5]
  simp (disch := omega) only [S.f, S.cw (show 1 < 169 by decide), R.m, ht, goes_f S, cond_true, cond_false, bI_ok, bI_er, bV_ok, bV_er, bR_ok, bR_er, bD_ok, bD_er, bF_ok, bF_er, thr_ap, cl_nI, lt_nI, le_nI, eq_nI, m1_lt, nI_m1, m1_nI, nI_lt_m1, add_nI, sub_nI, addm_nI, z_addm, z_subm, mul_nI, fit1_0, fit1_1, fit2_n, HI_wI, HK_wI, HL_wI, HR_wI, ckK_wI, chI_wI, sI_wI, wI_wI, lz0, lz1, lz2, lz3, lz4, lz5, lz6, lz7, lz8, lz9, lz10, lz12, lz13, lz16, lz17, lz20, lz21, lz23, lz26, lz30, lz32, lz35, lz40, lz45, lz48, lz57, lz58, lz59, lz60, lz61, lz63, lz64, lz97, lz99, lz100, lz110, lz111, lz126, lz129, lz132, lz133, lz166, lz169, lz255, lz999, lz1183, lz1800, Nat.reduceAdd, Nat.reduceLT, Nat.reduceEqDiff, Nat.not_lt_zero, Nat.lt_irrefl, ↓reduceIte, Nat.zero_add, Nat.add_zero, ne_eq, not_true_eq_false, not_false_eq_true, reduceCtorEq]
theorem RM.sum1 {g : Nat → Int32} (R : RM g A D) {s : Nat} (hs : s < 3) {W : Nat → Nat} (hW : ∀ k, A s k = 0 → W k = 0) : sumN (fun j => if ms g j = s then W (mk g j) else 0) (tot A) = sumN W 1000 := by
  rw [R.sum (F := fun s' k => if s' = s then W k else 0) (fun j _ => rfl) (fun s' k _ _ h0 => by
    split
    · rename_i q
      rw [q] at h0
      exact hW k h0
    · rfl)]
  have z : ∀ s', s' ≠ s → sumN (fun k => if s' = s then W k else 0) 1000 = 0 := fun s' q => sumN_0 (fun k _ => if_neg q)
  have o : sumN (fun k => if s = s then W k else 0) 1000 = sumN W 1000 := sumN_eq (fun k _ => if_pos rfl)
  have : s = 0 ∨ s = 1 ∨ s = 2 := by omega
  rcases this with rfl | rfl | rfl
  · rw [o, z 1 (by decide), z 2 (by decide)]; simp only [Nat.add_zero]
  · rw [o, z 0 (by decide), z 2 (by decide), Nat.zero_add, Nat.add_zero]
  · rw [o, z 0 (by decide), z 1 (by decide), Nat.zero_add]
theorem pairsM_sum {g : Nat → Int32} (R : RM g A D) {s o : Nat} (hs : s < 3) (ho : o < 3) : sumN (fun i => sumN (fun j => b2n (cM A g (nI (97 + s)) (nI (97 + o)) i j)) (tot A)) (tot A) = pcA A s o := by
  have ex : ∀ j s, s < 3 → j < tot A → decide (nI (97 + ms g j) = nI (97 + s)) = decide (ms g j = s) := fun j s hs hj => by
    have := (R.b hj).1
    rw [decide_eq_decide, eq_nI (by omega) (by omega)]
    omega
  unfold pcA
  rw [← R.sum1 hs (W := fun k => sumN (fun k' => b2n (ppA A s k o k')) 1000) (fun k h0 => sumN_0 (fun k' _ => by rw [pp_z1 h0]; rfl))]
  refine sumN_eq (fun i hi => ?_)
  by_cases q : ms g i = s
  · rw [if_pos q, ← R.sum1 ho (W := fun k' => b2n (ppA A s (mk g i) o k')) (fun k h0 => by rw [pp_z2 h0]; rfl)]
    refine sumN_eq (fun j hj => ?_)
    unfold cM
    rw [ex i s hs hi, ex j o ho hj, q, decide_eq_true rfl, Bool.true_and]
    by_cases q2 : ms g j = o
    · rw [if_pos q2, q2, decide_eq_true rfl, Bool.true_and]
    · rw [if_neg q2, decide_eq_false q2, Bool.false_and]
      rfl
  · rw [if_neg q]
    refine sumN_0 (fun j hj => ?_)
    unfold cM
    rw [ex i s hs hi, decide_eq_false q, Bool.false_and]
    rfl
theorem pairsM_t (S : MdS h) (R : RM (HI h 242) A D) {s o : Nat} (hs : s < 3) (ho : o < 3) (hso : s ≠ o) : CL 286 [.ref 241, .int (nI (97 + s)), .int (nI (97 + o))] h = some (.ok (.int (nI (pcA A s o))), tH h 0) := by
  have m30 := R.m30
  obtain ⟨v, hgo⟩ := pairsM_go S R (nI (97 + s)) (nI (97 + o))
  have ht := areTwo_ok (h := h) (nI (97 + s)) (nI (97 + o))
  rw [two_nI hs ho hso, b2t] at ht
  rw [pairsM_sum R hs ho] at hgo
  rw [hgo, e286_5]
  simp (disch := omega) only [S.f, S.cw (show 1 < 169 by decide), R.m, ht, goes_t S, Nat.succ_ne_self, cond_true, cond_false, bI_ok, bI_er, bV_ok, bV_er, bR_ok, bR_er, bD_ok, bD_er, bF_ok, bF_er, thr_ap, cl_nI, lt_nI, le_nI, eq_nI, m1_lt, nI_m1, m1_nI, nI_lt_m1, add_nI, sub_nI, addm_nI, z_addm, z_subm, mul_nI, fit1_0, fit1_1, fit2_n, HI_wI, HK_wI, HL_wI, HR_wI, ckK_wI, chI_wI, sI_wI, wI_wI, lz0, lz1, lz2, lz3, lz4, lz5, lz6, lz7, lz8, lz9, lz10, lz12, lz13, lz16, lz17, lz20, lz21, lz23, lz26, lz30, lz32, lz35, lz40, lz45, lz48, lz57, lz58, lz59, lz60, lz61, lz63, lz64, lz97, lz99, lz100, lz110, lz111, lz126, lz129, lz132, lz133, lz166, lz169, lz255, lz999, lz1183, lz1800, Nat.reduceAdd, Nat.reduceLT, Nat.reduceEqDiff, Nat.not_lt_zero, Nat.lt_irrefl, ↓reduceIte, Nat.zero_add, Nat.add_zero, ne_eq, not_true_eq_false, not_false_eq_true, reduceCtorEq]
theorem w_none {g : Nat → Int32} (R : RM g A D) {s : Nat} : ∀ i, i < tot A → (nI i = -nI 1) = (ms g i = s ∧ mk g i = 1000) := fun i hi => by
  have m30 := R.m30
  have := R.b hi
  rw [nI_m1 (by omega), eq_false (show ¬(ms g i = s ∧ mk g i = 1000) by omega)]
theorem matchingM_t (S : MdS h) (R : RM (HI h 242) A D) {s o : Nat} (hs : s < 3) (ho : o < 3) (hso : s ≠ o) : ∃ z f', CL 292 [.ref 241, .int (nI (97 + s)), .int (nI (97 + o))] h = some (.ok (.int (nI z)), wI h f') ∧ CL 294 [.ref 241, .int (nI (97 + s)), .int (nI (97 + o))] h = some (.ok (.int (nI z)), wI h f') ∧ MCk (ek A s o 1000) 1000 z ∧ z ≤ 30 ∧ f' 241 16 = nI 0 ∧ Fp (u2 (HI h) 241 16 (nI 0)) f' := by
  have ht := areTwo_ok (h := h) (nI (97 + s)) (nI (97 + o))
  rw [two_nI hs ho hso, b2t] at ht
  have R' : RM (u2 (HI h) 241 16 (nI 0) 242) A D := R.thr
  obtain ⟨z, f', k1, k2, k3, k4⟩ := matchesM_ok S R' hs ho hso (-nI 1) (w_none R')
  have ht0 : tH h 0 = wI h (u2 (HI h) 241 16 (nI 0)) := rfl
  have e : CL 291 [.ref 241, .int (nI (97 + s)), .int (nI (97 + o))] h = some (.ok (.int (nI z)), wI h f') := by
    rw [e291]
    simp (disch := omega) only [S.f, ht, goes_t S, ht0, k1, Nat.succ_ne_self, cond_true, cond_false, bI_ok, bI_er, bV_ok, bV_er, bR_ok, bR_er, bD_ok, bD_er, bF_ok, bF_er, thr_ap, cl_nI, lt_nI, le_nI, eq_nI, m1_lt, nI_m1, m1_nI, nI_lt_m1, add_nI, sub_nI, addm_nI, z_addm, z_subm, mul_nI, fit1_0, fit1_1, fit2_n, HI_wI, HK_wI, HL_wI, HR_wI, ckK_wI, chI_wI, sI_wI, wI_wI, lz0, lz1, lz2, lz3, lz4, lz5, lz6, lz7, lz8, lz9, lz10, lz12, lz13, lz16, lz17, lz20, lz21, lz23, lz26, lz30, lz32, lz35, lz40, lz45, lz48, lz57, lz58, lz59, lz60, lz61, lz63, lz64, lz97, lz99, lz100, lz110, lz111, lz126, lz129, lz132, lz133, lz166, lz169, lz255, lz999, lz1183, lz1800, Nat.reduceAdd, Nat.reduceLT, Nat.reduceEqDiff, Nat.not_lt_zero, Nat.lt_irrefl, ↓reduceIte, Nat.zero_add, Nat.add_zero, ne_eq, not_true_eq_false, not_false_eq_true, reduceCtorEq]
  refine ⟨z, f', ?_, ?_, k2, k3, (k4 241 16 (by decide) (by decide) (by decide)).trans (w2_eq _ _ _ _), k4⟩
  · rw [e292]
    simp (disch := omega) only [S.f, e, cond_true, cond_false, bI_ok, bI_er, bV_ok, bV_er, bR_ok, bR_er, bD_ok, bD_er, bF_ok, bF_er, thr_ap, cl_nI, lt_nI, le_nI, eq_nI, m1_lt, nI_m1, m1_nI, nI_lt_m1, add_nI, sub_nI, addm_nI, z_addm, z_subm, mul_nI, fit1_0, fit1_1, fit2_n, HI_wI, HK_wI, HL_wI, HR_wI, ckK_wI, chI_wI, sI_wI, wI_wI, lz0, lz1, lz2, lz3, lz4, lz5, lz6, lz7, lz8, lz9, lz10, lz12, lz13, lz16, lz17, lz20, lz21, lz23, lz26, lz30, lz32, lz35, lz40, lz45, lz48, lz57, lz58, lz59, lz60, lz61, lz63, lz64, lz97, lz99, lz100, lz110, lz111, lz126, lz129, lz132, lz133, lz166, lz169, lz255, lz999, lz1183, lz1800, Nat.reduceAdd, Nat.reduceLT, Nat.reduceEqDiff, Nat.not_lt_zero, Nat.lt_irrefl, ↓reduceIte, Nat.zero_add, Nat.add_zero, ne_eq, not_true_eq_false, not_false_eq_true, reduceCtorEq]
  · rw [e294]
    simp (disch := omega) only [S.f, e, cond_true, cond_false, bI_ok, bI_er, bV_ok, bV_er, bR_ok, bR_er, bD_ok, bD_er, bF_ok, bF_er, thr_ap, cl_nI, lt_nI, le_nI, eq_nI, m1_lt, nI_m1, m1_nI, nI_lt_m1, add_nI, sub_nI, addm_nI, z_addm, z_subm, mul_nI, fit1_0, fit1_1, fit2_n, HI_wI, HK_wI, HL_wI, HR_wI, ckK_wI, chI_wI, sI_wI, wI_wI, lz0, lz1, lz2, lz3, lz4, lz5, lz6, lz7, lz8, lz9, lz10, lz12, lz13, lz16, lz17, lz20, lz21, lz23, lz26, lz30, lz32, lz35, lz40, lz45, lz48, lz57, lz58, lz59, lz60, lz61, lz63, lz64, lz97, lz99, lz100, lz110, lz111, lz126, lz129, lz132, lz133, lz166, lz169, lz255, lz999, lz1183, lz1800, Nat.reduceAdd, Nat.reduceLT, Nat.reduceEqDiff, Nat.not_lt_zero, Nat.lt_irrefl, ↓reduceIte, Nat.zero_add, Nat.add_zero, ne_eq, not_true_eq_false, not_false_eq_true, reduceCtorEq]
theorem matchingM_f (S : MdS h) {x y : Int32} (hb : two x y = false) : CL 292 [.ref 241, .int x, .int y] h = some (.ok (.int (nI 0)), tH h 1) ∧ CL 294 [.ref 241, .int x, .int y] h = some (.ok (.int (nI 0)), tH h 1) := by
  have ht := areTwo_ok (h := h) x y
  rw [hb, b2f] at ht
  have e : CL 291 [.ref 241, .int x, .int y] h = some (.ok (.int (nI 0)), tH h 1) := by
    rw [e291]
    simp (disch := omega) only [S.f, ht, goes_f S, cond_true, cond_false, bI_ok, bI_er, bV_ok, bV_er, bR_ok, bR_er, bD_ok, bD_er, bF_ok, bF_er, thr_ap, cl_nI, lt_nI, le_nI, eq_nI, m1_lt, nI_m1, m1_nI, nI_lt_m1, add_nI, sub_nI, addm_nI, z_addm, z_subm, mul_nI, fit1_0, fit1_1, fit2_n, HI_wI, HK_wI, HL_wI, HR_wI, ckK_wI, chI_wI, sI_wI, wI_wI, lz0, lz1, lz2, lz3, lz4, lz5, lz6, lz7, lz8, lz9, lz10, lz12, lz13, lz16, lz17, lz20, lz21, lz23, lz26, lz30, lz32, lz35, lz40, lz45, lz48, lz57, lz58, lz59, lz60, lz61, lz63, lz64, lz97, lz99, lz100, lz110, lz111, lz126, lz129, lz132, lz133, lz166, lz169, lz255, lz999, lz1183, lz1800, Nat.reduceAdd, Nat.reduceLT, Nat.reduceEqDiff, Nat.not_lt_zero, Nat.lt_irrefl, ↓reduceIte, Nat.zero_add, Nat.add_zero, ne_eq, not_true_eq_false, not_false_eq_true, reduceCtorEq]
  refine ⟨?_, ?_⟩
  · rw [e292]
    simp (disch := omega) only [S.f, e, cond_true, cond_false, bI_ok, bI_er, bV_ok, bV_er, bR_ok, bR_er, bD_ok, bD_er, bF_ok, bF_er, thr_ap, cl_nI, lt_nI, le_nI, eq_nI, m1_lt, nI_m1, m1_nI, nI_lt_m1, add_nI, sub_nI, addm_nI, z_addm, z_subm, mul_nI, fit1_0, fit1_1, fit2_n, HI_wI, HK_wI, HL_wI, HR_wI, ckK_wI, chI_wI, sI_wI, wI_wI, lz0, lz1, lz2, lz3, lz4, lz5, lz6, lz7, lz8, lz9, lz10, lz12, lz13, lz16, lz17, lz20, lz21, lz23, lz26, lz30, lz32, lz35, lz40, lz45, lz48, lz57, lz58, lz59, lz60, lz61, lz63, lz64, lz97, lz99, lz100, lz110, lz111, lz126, lz129, lz132, lz133, lz166, lz169, lz255, lz999, lz1183, lz1800, Nat.reduceAdd, Nat.reduceLT, Nat.reduceEqDiff, Nat.not_lt_zero, Nat.lt_irrefl, ↓reduceIte, Nat.zero_add, Nat.add_zero, ne_eq, not_true_eq_false, not_false_eq_true, reduceCtorEq]
  · rw [e294]
    simp (disch := omega) only [S.f, e, cond_true, cond_false, bI_ok, bI_er, bV_ok, bV_er, bR_ok, bR_er, bD_ok, bD_er, bF_ok, bF_er, thr_ap, cl_nI, lt_nI, le_nI, eq_nI, m1_lt, nI_m1, m1_nI, nI_lt_m1, add_nI, sub_nI, addm_nI, z_addm, z_subm, mul_nI, fit1_0, fit1_1, fit2_n, HI_wI, HK_wI, HL_wI, HR_wI, ckK_wI, chI_wI, sI_wI, wI_wI, lz0, lz1, lz2, lz3, lz4, lz5, lz6, lz7, lz8, lz9, lz10, lz12, lz13, lz16, lz17, lz20, lz21, lz23, lz26, lz30, lz32, lz35, lz40, lz45, lz48, lz57, lz58, lz59, lz60, lz61, lz63, lz64, lz97, lz99, lz100, lz110, lz111, lz126, lz129, lz132, lz133, lz166, lz169, lz255, lz999, lz1183, lz1800, Nat.reduceAdd, Nat.reduceLT, Nat.reduceEqDiff, Nat.not_lt_zero, Nat.lt_irrefl, ↓reduceIte, Nat.zero_add, Nat.add_zero, ne_eq, not_true_eq_false, not_false_eq_true, reduceCtorEq]
theorem needM_f (S : MdS h) (R : RM (HI h 242) A D) (x k y : Int32) (hb : (two x y && inr 0 999 k) = false) : CL 295 [.ref 241, .int x, .int k, .int y] h = some (.ok (.int (nI 0)), tH h 1) := by
  obtain ⟨w1, f1⟩ : ∃ w : Int32, CL 221 [.ref 241, .int x, .int k] h = some (.ok (.int w), h) := ⟨_, find_ok S R x k⟩
  have ht := areTwo_ok (h := h) x y
  rw [e295]
  by_cases c1 : w1 = -nI 1
  all_goals
    cases q1 : two x y with
    | false =>
      rw [q1, b2f] at ht
      simp (disch := omega) only [S.f, f1, ht, c1, h_fft S, h_ftt S, cond_true, cond_false, bI_ok, bI_er, bV_ok, bV_er, bR_ok, bR_er, bD_ok, bD_er, bF_ok, bF_er, thr_ap, cl_nI, lt_nI, le_nI, eq_nI, m1_lt, nI_m1, m1_nI, nI_lt_m1, add_nI, sub_nI, addm_nI, z_addm, z_subm, mul_nI, fit1_0, fit1_1, fit2_n, HI_wI, HK_wI, HL_wI, HR_wI, ckK_wI, chI_wI, sI_wI, wI_wI, lz0, lz1, lz2, lz3, lz4, lz5, lz6, lz7, lz8, lz9, lz10, lz12, lz13, lz16, lz17, lz20, lz21, lz23, lz26, lz30, lz32, lz35, lz40, lz45, lz48, lz57, lz58, lz59, lz60, lz61, lz63, lz64, lz97, lz99, lz100, lz110, lz111, lz126, lz129, lz132, lz133, lz166, lz169, lz255, lz999, lz1183, lz1800, Nat.reduceAdd, Nat.reduceLT, Nat.reduceEqDiff, Nat.not_lt_zero, Nat.lt_irrefl, ↓reduceIte, Nat.zero_add, Nat.add_zero, ne_eq, not_true_eq_false, not_false_eq_true, reduceCtorEq]
    | true =>
      rw [q1, b2t] at ht
      have q3 : inr 0 999 k = false := by
        rw [q1] at hb
        exact hb
      simp (disch := omega) only [S.f, f1, ht, m_kf q3, c1, h_fft S, h_ftt S, Nat.succ_ne_self, cond_true, cond_false, bI_ok, bI_er, bV_ok, bV_er, bR_ok, bR_er, bD_ok, bD_er, bF_ok, bF_er, thr_ap, cl_nI, lt_nI, le_nI, eq_nI, m1_lt, nI_m1, m1_nI, nI_lt_m1, add_nI, sub_nI, addm_nI, z_addm, z_subm, mul_nI, fit1_0, fit1_1, fit2_n, HI_wI, HK_wI, HL_wI, HR_wI, ckK_wI, chI_wI, sI_wI, wI_wI, lz0, lz1, lz2, lz3, lz4, lz5, lz6, lz7, lz8, lz9, lz10, lz12, lz13, lz16, lz17, lz20, lz21, lz23, lz26, lz30, lz32, lz35, lz40, lz45, lz48, lz57, lz58, lz59, lz60, lz61, lz63, lz64, lz97, lz99, lz100, lz110, lz111, lz126, lz129, lz132, lz133, lz166, lz169, lz255, lz999, lz1183, lz1800, Nat.reduceAdd, Nat.reduceLT, Nat.reduceEqDiff, Nat.not_lt_zero, Nat.lt_irrefl, ↓reduceIte, Nat.zero_add, Nat.add_zero, ne_eq, not_true_eq_false, not_false_eq_true, reduceCtorEq]
theorem needM_n (S : MdS h) (R : RM (HI h 242) A D) {s o k : Nat} (hs : s < 3) (ho : o < 3) (hso : s ≠ o) (hk : k < 1000) (h0 : A s k = 0) : CL 295 [.ref 241, .int (nI (97 + s)), .int (nI k), .int (nI (97 + o))] h = some (.ok (.int (nI 0)), tH h 2) := by
  have ht := areTwo_ok (h := h) (nI (97 + s)) (nI (97 + o))
  rw [two_nI hs ho hso, b2t] at ht
  have f1 := find_n S R hs hk h0
  rw [e295]
  simp (disch := omega) only [S.f, f1, ht, m_k (hk_in hk), h_tft S, Nat.succ_ne_self, cond_true, cond_false, bI_ok, bI_er, bV_ok, bV_er, bR_ok, bR_er, bD_ok, bD_er, bF_ok, bF_er, thr_ap, cl_nI, lt_nI, le_nI, eq_nI, m1_lt, nI_m1, m1_nI, nI_lt_m1, add_nI, sub_nI, addm_nI, z_addm, z_subm, mul_nI, fit1_0, fit1_1, fit2_n, HI_wI, HK_wI, HL_wI, HR_wI, ckK_wI, chI_wI, sI_wI, wI_wI, lz0, lz1, lz2, lz3, lz4, lz5, lz6, lz7, lz8, lz9, lz10, lz12, lz13, lz16, lz17, lz20, lz21, lz23, lz26, lz30, lz32, lz35, lz40, lz45, lz48, lz57, lz58, lz59, lz60, lz61, lz63, lz64, lz97, lz99, lz100, lz110, lz111, lz126, lz129, lz132, lz133, lz166, lz169, lz255, lz999, lz1183, lz1800, Nat.reduceAdd, Nat.reduceLT, Nat.reduceEqDiff, Nat.not_lt_zero, Nat.lt_irrefl, ↓reduceIte, Nat.zero_add, Nat.add_zero, ne_eq, not_true_eq_false, not_false_eq_true, reduceCtorEq]
theorem needM_t (S : MdS h) (R : RM (HI h 242) A D) {s o k : Nat} (hs : s < 3) (ho : o < 3) (hso : s ≠ o) (hk : k < 1000) (h0 : 0 < A s k) : ∃ z z' f', CL 295 [.ref 241, .int (nI (97 + s)), .int (nI k), .int (nI (97 + o))] h = some (.ok (.int (nI (b2n (decide (z' < z))))), wI h f') ∧ MCk (ek A s o 1000) 1000 z ∧ MCk (ek A s o k) 1000 z' ∧ f' 241 16 = nI 0 ∧ Fp (u2 (HI h) 241 16 (nI 0)) f' := by
  have m30 := R.m30
  have ht := areTwo_ok (h := h) (nI (97 + s)) (nI (97 + o))
  rw [two_nI hs ho hso, b2t] at ht
  obtain ⟨w, w1, w2, w3, f1⟩ := find_t S R hs hk h0
  have R' : RM (u2 (HI h) 241 16 (nI 0) 242) A D := R.thr
  have em : ∀ j, ms (u2 (HI h) 241 16 (nI 0) 242) j = ms (HI h 242) j := fun j => congrArg (fun x : Int32 => x.toNatClampNeg - 97) (w2_ne (by omega))
  have ekk : ∀ j, mk (u2 (HI h) 241 16 (nI 0) 242) j = mk (HI h 242) j := fun j => congrArg (fun x : Int32 => x.toNatClampNeg) (w2_ne (by omega))
  obtain ⟨z', f1', k1, k2, k3, k4⟩ := matchesM_ok S R' hs ho hso (w := k) (nI w) (fun i hi => by
    rw [eq_nI (by omega) (by omega), em, ekk]
    refine propext ⟨fun q => by rw [q]; exact ⟨w2, w3⟩, fun q => R.inj hi w1 (q.1.trans w2.symm) (q.2.trans w3.symm)⟩)
  have R2 := k4.rm R'
  obtain ⟨z, f2, y1, y2, y3, y4⟩ := matchesM_ok S R2 hs ho hso (-nI 1) (w_none R2)
  have ht0 : tH h 0 = wI h (u2 (HI h) 241 16 (nI 0)) := rfl
  refine ⟨z, z', f2, ?_, y2, k2, (y4 241 16 (by decide) (by decide) (by decide)).trans ((k4 241 16 (by decide) (by decide) (by decide)).trans (w2_eq _ _ _ _)), k4.trans y4⟩
  rw [e295]
  by_cases q : z' < z
  · rw [decide_eq_true q, b2t]
    simp (disch := omega) only [S.f, f1, ht, m_k (hk_in hk), h_ttt S, ht0, k1, y1, q, Nat.succ_ne_self, cond_true, cond_false, bI_ok, bI_er, bV_ok, bV_er, bR_ok, bR_er, bD_ok, bD_er, bF_ok, bF_er, thr_ap, cl_nI, lt_nI, le_nI, eq_nI, m1_lt, nI_m1, m1_nI, nI_lt_m1, add_nI, sub_nI, addm_nI, z_addm, z_subm, mul_nI, fit1_0, fit1_1, fit2_n, HI_wI, HK_wI, HL_wI, HR_wI, ckK_wI, chI_wI, sI_wI, wI_wI, lz0, lz1, lz2, lz3, lz4, lz5, lz6, lz7, lz8, lz9, lz10, lz12, lz13, lz16, lz17, lz20, lz21, lz23, lz26, lz30, lz32, lz35, lz40, lz45, lz48, lz57, lz58, lz59, lz60, lz61, lz63, lz64, lz97, lz99, lz100, lz110, lz111, lz126, lz129, lz132, lz133, lz166, lz169, lz255, lz999, lz1183, lz1800, Nat.reduceAdd, Nat.reduceLT, Nat.reduceEqDiff, Nat.not_lt_zero, Nat.lt_irrefl, ↓reduceIte, Nat.zero_add, Nat.add_zero, ne_eq, not_true_eq_false, not_false_eq_true, reduceCtorEq]
  · rw [decide_eq_false q, b2f]
    simp (disch := omega) only [S.f, f1, ht, m_k (hk_in hk), h_ttt S, ht0, k1, y1, q, Nat.succ_ne_self, cond_true, cond_false, bI_ok, bI_er, bV_ok, bV_er, bR_ok, bR_er, bD_ok, bD_er, bF_ok, bF_er, thr_ap, cl_nI, lt_nI, le_nI, eq_nI, m1_lt, nI_m1, m1_nI, nI_lt_m1, add_nI, sub_nI, addm_nI, z_addm, z_subm, mul_nI, fit1_0, fit1_1, fit2_n, HI_wI, HK_wI, HL_wI, HR_wI, ckK_wI, chI_wI, sI_wI, wI_wI, lz0, lz1, lz2, lz3, lz4, lz5, lz6, lz7, lz8, lz9, lz10, lz12, lz13, lz16, lz17, lz20, lz21, lz23, lz26, lz30, lz32, lz35, lz40, lz45, lz48, lz57, lz58, lz59, lz60, lz61, lz63, lz64, lz97, lz99, lz100, lz110, lz111, lz126, lz129, lz132, lz133, lz166, lz169, lz255, lz999, lz1183, lz1800, Nat.reduceAdd, Nat.reduceLT, Nat.reduceEqDiff, Nat.not_lt_zero, Nat.lt_irrefl, ↓reduceIte, Nat.zero_add, Nat.add_zero, ne_eq, not_true_eq_false, not_false_eq_true, reduceCtorEq]
end MG
