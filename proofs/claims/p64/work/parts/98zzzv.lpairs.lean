/-! MATCHINGS AND PAIRS ASKED FOR -/
/-- how many possible pairs two sources have -/
def pcA (A : AF) (s o : Nat) : Nat := sumN (fun k => sumN (fun k' => b2n (ppA A s k o k')) 1000) 1000
theorem pp_z1 {A : AF} {s k o k' : Nat} (h : A s k = 0) : ppA A s k o k' = false := by
  unfold ppA
  exact decide_eq_false (by omega)
theorem pp_z2 {A : AF} {s k o k' : Nat} (h : A o k' = 0) : ppA A s k o k' = false := by
  unfold ppA
  exact decide_eq_false (by omega)
section MG
variable {h : Hp} {b : Bk} {A D : AF}
theorem po_le (x : Int32) : po x ≤ 32 := by
  have := sumN_bd (f := fun i => b2n (bt x i)) (n := 32) (b := 1) (fun i _ => b2n_le _)
  unfold po
  omega
theorem pairCount_ok (M : MgS h) {n : Nat} {f : Nat → Nat → Int32} (n30 : n ≤ 30) (h7 : f 227 7 = nI n) : CL 148 [.ref 227] (wI h f) = some (.ok (.int (nI (sumN (fun i => po (f 228 i)) n))), wI h f) := by
  rw [e148]
  refine (lpUp (F := fun i => RF 148 4 [.ref 227, .int (nI (sumN (fun i => po (f 228 i)) i)), .int (nI i)] [] (wI h f)) (Nat.zero_le n) (fun i _ hi => ?_)).trans ?_
  · have hb := bitCount_ok (h := wI h f) (f 228 i)
    rw [e148_4]
    simp (disch := omega) only [M.f, M.c (show i < 30 by omega), h7, hi, hb, sumN, cond_true, cond_false, bI_ok, bI_er, bV_ok, bV_er, bR_ok, bR_er, bD_ok, bD_er, bF_ok, bF_er, thr_ap, cl_nI, lt_nI, le_nI, eq_nI, m1_lt, nI_m1, m1_nI, nI_lt_m1, add_nI, sub_nI, addm_nI, z_addm, z_subm, mul_nI, fit1_0, fit1_1, fit2_n, HI_wI, HK_wI, HL_wI, HR_wI, ckK_wI, chI_wI, sI_wI, wI_wI, lz0, lz1, lz2, lz3, lz4, lz5, lz6, lz7, lz8, lz9, lz10, lz12, lz13, lz16, lz17, lz20, lz21, lz23, lz26, lz30, lz32, lz35, lz40, lz45, lz48, lz57, lz58, lz59, lz60, lz61, lz63, lz64, lz97, lz99, lz100, lz110, lz111, lz126, lz129, lz132, lz133, lz166, lz169, lz255, lz999, lz1183, lz1800, Nat.reduceAdd, Nat.reduceLT, Nat.reduceEqDiff, Nat.not_lt_zero, Nat.lt_irrefl, ↓reduceIte, Nat.zero_add, Nat.add_zero, ne_eq, not_true_eq_false, not_false_eq_true, reduceCtorEq]
  · rw [e148_4]
    simp (disch := omega) only [M.f, h7, cond_true, cond_false, bI_ok, bI_er, bV_ok, bV_er, bR_ok, bR_er, bD_ok, bD_er, bF_ok, bF_er, thr_ap, cl_nI, lt_nI, le_nI, eq_nI, m1_lt, nI_m1, m1_nI, nI_lt_m1, add_nI, sub_nI, addm_nI, z_addm, z_subm, mul_nI, fit1_0, fit1_1, fit2_n, HI_wI, HK_wI, HL_wI, HR_wI, ckK_wI, chI_wI, sI_wI, wI_wI, lz0, lz1, lz2, lz3, lz4, lz5, lz6, lz7, lz8, lz9, lz10, lz12, lz13, lz16, lz17, lz20, lz21, lz23, lz26, lz30, lz32, lz35, lz40, lz45, lz48, lz57, lz58, lz59, lz60, lz61, lz63, lz64, lz97, lz99, lz100, lz110, lz111, lz126, lz129, lz132, lz133, lz166, lz169, lz255, lz999, lz1183, lz1800, Nat.reduceAdd, Nat.reduceLT, Nat.reduceEqDiff, Nat.not_lt_zero, Nat.lt_irrefl, ↓reduceIte, Nat.zero_add, Nat.add_zero, ne_eq, not_true_eq_false, not_false_eq_true, reduceCtorEq]
theorem pairs_key {t : Nat} {f g : Nat → Nat → Int32} (R : RT f t A D) {s o : Nat} (hs : s < 3) (ho : o < 3) (hg : ∀ i j, i < tn f t → j < 32 → bt (g 228 i) j = er A f t s o i j) : sumN (fun i => po (g 228 i)) (tn f t) = pcA A s o := by
  have n30 := R.n30
  unfold pcA
  refine R.sum (fun i hi => ?_) (fun k _ h0 h1 h2 => ?_)
  · have e : po (g 228 i) = sumN (fun j => b2n (er A f t s o i j)) (tn f t) := by
      unfold po
      rw [sumN_eq (g := fun j => b2n (er A f t s o i j)) (fun j hj => by rw [hg i j hi hj])]
      exact sumN_cut (by omega) (fun j h1 h2 => by
        unfold er
        rw [decide_eq_false (by omega)]
        rfl)
    rw [e]
    refine R.sum (F := fun k' => b2n (ppA A s (tk f t i) o k')) (fun j hj => ?_) (fun k' _ h0 h1 h2 => ?_)
    · unfold er
      rw [decide_eq_true ⟨hi, hj⟩, Bool.true_and]
    · have : A o k' = 0 := by
        have : o = 0 ∨ o = 1 ∨ o = 2 := by omega
        rcases this with rfl | rfl | rfl <;> assumption
      rw [pp_z2 this]
      rfl
  · have : A s k = 0 := by
      have : s = 0 ∨ s = 1 ∨ s = 2 := by omega
      rcases this with rfl | rfl | rfl <;> assumption
    exact sumN_0 (fun k' _ => by rw [pp_z1 this]; rfl)
theorem pairsC_t (S : RrS h) (M : MgS h) (R : RK (HI h) 32 b) {s o : Nat} (hs : s < 3) (ho : o < 3) (hso : s ≠ o) : ∃ f', CL 149 [.ref 31, .int (nI (97 + s)), .int (nI (97 + o))] h = some (.ok (.int (nI (pcA (kA b) s o))), wI h f') ∧ Fm (HI h) f' := by
  have Rt : RT (HI h) 33 (kA b) (kD b) := R.t
  have n30 := Rt.n30
  have t1 := (tb33 S).2
  obtain ⟨g, g1, ⟨g2, g3, g4⟩, g5⟩ := load33 S M Rt hs ho hso
  rw [wI_HI] at g1
  have hp := pairCount_ok M (f := g) (by omega) g2
  rw [pairs_key Rt hs ho g3] at hp
  refine ⟨g, ?_, g5⟩
  rw [e149]
  simp (disch := omega) only [S.f, S.ks, M.f, t1, rqS_t hs, rqO_t hs ho hso, g1, hp, cond_true, cond_false, bI_ok, bI_er, bV_ok, bV_er, bR_ok, bR_er, bD_ok, bD_er, bF_ok, bF_er, thr_ap, cl_nI, lt_nI, le_nI, eq_nI, m1_lt, nI_m1, m1_nI, nI_lt_m1, add_nI, sub_nI, addm_nI, z_addm, z_subm, mul_nI, fit1_0, fit1_1, fit2_n, HI_wI, HK_wI, HL_wI, HR_wI, ckK_wI, chI_wI, sI_wI, wI_wI, lz0, lz1, lz2, lz3, lz4, lz5, lz6, lz7, lz8, lz9, lz10, lz12, lz13, lz16, lz17, lz20, lz21, lz23, lz26, lz30, lz32, lz35, lz40, lz45, lz48, lz57, lz58, lz59, lz60, lz61, lz63, lz64, lz97, lz99, lz100, lz110, lz111, lz126, lz129, lz132, lz133, lz166, lz169, lz255, lz999, lz1183, lz1800, Nat.reduceAdd, Nat.reduceLT, Nat.reduceEqDiff, Nat.not_lt_zero, Nat.lt_irrefl, ↓reduceIte, Nat.zero_add, Nat.add_zero, ne_eq, not_true_eq_false, not_false_eq_true, reduceCtorEq]
end MG
