/-! THE REFERENCE: the line of a record -/
def recL (b : Bk) (s k : Nat) : List Nat := ((((([97 + s] ++ dig k) ++ [61]) ++ dig (kA b s k)) ++ [32]) ++ [64]) ++ dig (kD b s k)
def LI (f : Nat → Nat → Int32) (L : List Nat) : Prop := LM f L ∧ f 241 15 = nI L.length
theorem LM.fr {f f' : Nat → Nat → Int32} {L : List Nat} (R : LM f L) (e : ∀ y, f' 251 y = f 251 y) : LM f' L := ⟨R.1, fun i hi => (e i).trans (R.2 i hi)⟩
theorem LM.nil (f : Nat → Nat → Int32) : LM f [] := ⟨by decide, fun i hi => absurd hi (Nat.not_lt_zero i)⟩
theorem la1 (L : List Nat) (c : Nat) : (L ++ [c]).length = L.length + 1 := List.length_append
theorem la2 (L M : List Nat) : (L ++ M).length = L.length + M.length := List.length_append
section LQ
variable {h : Hp} {b : Bk}
theorem raw_a (S : MdS h) {f : Nat → Nat → Int32} (R : RN (f 242) b) {j s k : Nat} (hj : j < tot (kA b)) (e1 : ms (f 242) j = s) (e2 : mk (f 242) j = k) {f' : Nat → Nat → Int32} (e : ∀ y, f' 242 y = f 242 y) : CL 220 [.ref 241, .int (nI j), .int (nI 2)] (wI h f') = some (.ok (.int (nI (kA b s k))), wI h f') ∧ CL 220 [.ref 241, .int (nI j), .int (nI 3)] (wI h f') = some (.ok (.int (nI (kD b s k))), wI h f') := by
  have m30 := R.1.m30
  have r := R.1.r hj
  rw [e1, e2] at r
  have h2 := of_raw (S.wI f') (j := j) (c := 2) (by omega) (by decide)
  have h3 := of_raw (S.wI f') (j := j) (c := 3) (by omega) (by decide)
  rw [HI_wI, e, r.2.2.1] at h2
  rw [HI_wI, e, r.2.2.2] at h3
  exact ⟨h2, h3⟩
theorem recM_f (S : MdS h) (R : RN (HI h 242) b) (x y : Int32) (hbad : (inr 97 99 x && inr 0 999 y) = false) : CL 318 [.ref 241, .int x, .int y] h = some (.ok (.int (nI 0)), wI h (u2 (HI h) 241 16 (nI 1))) := by
  have hi1 := isSource_ok (h := h) x
  have hi2 := isKeyM_ok (h := h) y
  have hf := find_f S R.1 x y (by
    rw [Bool.and_eq_false_iff] at hbad
    exact hbad)
  have hg := holds_ok S false false true
  rw [b2f, b2t, show thN false false true = 1 from rfl, show b2n (decide (1 = 0)) = 0 from rfl] at hg
  rw [e318]
  cases q1 : inr 97 99 x with
  | false =>
    rw [q1, b2f] at hi1
    simp (disch := omega) only [S.f, hf, hi1, hg, cond_true, cond_false, bI_ok, bI_er, bV_ok, bV_er, bR_ok, bR_er, bD_ok, bD_er, bF_ok, bF_er, thr_ap, cl_nI, lt_nI, le_nI, eq_nI, m1_lt, nI_m1, m1_nI, nI_lt_m1, add_nI, sub_nI, addm_nI, z_addm, z_subm, mul_nI, fit1_0, fit1_1, fit2_n, HI_wI, HK_wI, HL_wI, HR_wI, ckK_wI, chI_wI, sI_wI, wI_wI, lz0, lz1, lz2, lz3, lz4, lz5, lz6, lz7, lz8, lz9, lz10, lz12, lz13, lz16, lz17, lz20, lz21, lz23, lz26, lz30, lz32, lz35, lz40, lz45, lz48, lz57, lz58, lz59, lz60, lz61, lz63, lz64, lz97, lz99, lz100, lz110, lz111, lz126, lz129, lz132, lz133, lz166, lz169, lz255, lz999, lz1183, lz1800, Nat.reduceAdd, Nat.reduceLT, Nat.reduceEqDiff, Nat.not_lt_zero, Nat.lt_irrefl, ↓reduceIte, Nat.zero_add, Nat.add_zero, ne_eq, not_true_eq_false, not_false_eq_true, reduceCtorEq]
  | true =>
    rw [q1, Bool.true_and] at hbad
    rw [q1, b2t] at hi1
    rw [hbad, b2f] at hi2
    simp (disch := omega) only [S.f, hf, hi1, hi2, hg, Nat.succ_ne_self, cond_true, cond_false, bI_ok, bI_er, bV_ok, bV_er, bR_ok, bR_er, bD_ok, bD_er, bF_ok, bF_er, thr_ap, cl_nI, lt_nI, le_nI, eq_nI, m1_lt, nI_m1, m1_nI, nI_lt_m1, add_nI, sub_nI, addm_nI, z_addm, z_subm, mul_nI, fit1_0, fit1_1, fit2_n, HI_wI, HK_wI, HL_wI, HR_wI, ckK_wI, chI_wI, sI_wI, wI_wI, lz0, lz1, lz2, lz3, lz4, lz5, lz6, lz7, lz8, lz9, lz10, lz12, lz13, lz16, lz17, lz20, lz21, lz23, lz26, lz30, lz32, lz35, lz40, lz45, lz48, lz57, lz58, lz59, lz60, lz61, lz63, lz64, lz97, lz99, lz100, lz110, lz111, lz126, lz129, lz132, lz133, lz166, lz169, lz255, lz999, lz1183, lz1800, Nat.reduceAdd, Nat.reduceLT, Nat.reduceEqDiff, Nat.not_lt_zero, Nat.lt_irrefl, ↓reduceIte, Nat.zero_add, Nat.add_zero, ne_eq, not_true_eq_false, not_false_eq_true, reduceCtorEq]
theorem recM_n (S : MdS h) (R : RN (HI h 242) b) {s k : Nat} (hs : s < 3) (hk : k < 1000) (h0 : kA b s k = 0) : CL 318 [.ref 241, .int (nI (97 + s)), .int (nI k)] h = some (.ok (.int (nI 0)), wI h (u2 (HI h) 241 16 (nI 2))) := by
  have hi1 := isSource_ok (h := h) (nI (97 + s))
  have hi2 := isKeyM_ok (h := h) (nI k)
  rw [inr_nI (by omega) (by omega) (by decide), b2t] at hi1 hi2
  have hf := find_n S R.1 hs hk h0
  have hg := holds_ok S true false true
  rw [b2f, b2t, show thN true false true = 2 from rfl, show b2n (decide (2 = 0)) = 0 from rfl] at hg
  rw [e318]
  simp (disch := omega) only [S.f, hf, hi1, hi2, hg, Nat.succ_ne_self, cond_true, cond_false, bI_ok, bI_er, bV_ok, bV_er, bR_ok, bR_er, bD_ok, bD_er, bF_ok, bF_er, thr_ap, cl_nI, lt_nI, le_nI, eq_nI, m1_lt, nI_m1, m1_nI, nI_lt_m1, add_nI, sub_nI, addm_nI, z_addm, z_subm, mul_nI, fit1_0, fit1_1, fit2_n, HI_wI, HK_wI, HL_wI, HR_wI, ckK_wI, chI_wI, sI_wI, wI_wI, lz0, lz1, lz2, lz3, lz4, lz5, lz6, lz7, lz8, lz9, lz10, lz12, lz13, lz16, lz17, lz20, lz21, lz23, lz26, lz30, lz32, lz35, lz40, lz45, lz48, lz57, lz58, lz59, lz60, lz61, lz63, lz64, lz97, lz99, lz100, lz110, lz111, lz126, lz129, lz132, lz133, lz166, lz169, lz255, lz999, lz1183, lz1800, Nat.reduceAdd, Nat.reduceLT, Nat.reduceEqDiff, Nat.not_lt_zero, Nat.lt_irrefl, ↓reduceIte, Nat.zero_add, Nat.add_zero, ne_eq, not_true_eq_false, not_false_eq_true, reduceCtorEq]
def FLi (f f' : Nat → Nat → Int32) : Prop := ∀ a y, a ≠ 251 → ¬(a = 241 ∧ (y = 15 ∨ y = 16)) → f' a y = f a y
theorem recM_t (S : MdS h) (R : RN (HI h 242) b) {s k : Nat} (hs : s < 3) (hk : k < 1000) (h0 : 0 < kA b s k) : ∃ f', CL 318 [.ref 241, .int (nI (97 + s)), .int (nI k)] h = some (.ok (.int (nI (recL b s k).length)), wI h f') ∧ LI f' (recL b s k) ∧ f' 241 16 = nI 0 ∧ FLi (HI h) f' := by
  have hi1 := isSource_ok (h := h) (nI (97 + s))
  have hi2 := isKeyM_ok (h := h) (nI k)
  rw [inr_nI (by omega) (by omega) (by decide), b2t] at hi1 hi2
  obtain ⟨j, j1, j2, j3, hf⟩ := find_t S R.1 hs hk h0
  have m30 := R.1.m30
  have hb := R.1.b j1
  rw [j2, j3] at hb
  have hg := holds_ok S true true true
  rw [b2t, show thN true true true = 0 from rfl, show b2n (decide (0 = 0)) = 1 from rfl] at hg
  have R0 : RN (u2 (HI h) 241 16 (nI 0) 242) b := R.cong (fun y _ => w2_ne (by omega))
  have k0 : u2 (HI h) 241 16 (nI 0) 241 16 = nI 0 := w2_eq _ _ _ _
  have F0 : FLi (HI h) (u2 (HI h) 241 16 (nI 0)) := fun a y q1 q2 => w2_ne (by omega)
  have j2' : ms (u2 (HI h) 241 16 (nI 0) 242) j = s := j2
  have j3' : mk (u2 (HI h) 241 16 (nI 0) 242) j = k := j3
  generalize u2 (HI h) 241 16 (nI 0) = g0 at *
  have l1 := dig_len3 hk
  have l2 := dig_len2 hb.2.2.2.1
  have l3 := dig_len (v := kD b s k) (by omega)
  obtain ⟨g1, a1, b1, c1⟩ := putc_ok S (LM.nil g0) (c := 97 + s) (n := 0) (m := 1) (by decide) rfl rfl
  obtain ⟨g2, a2, b2, c2⟩ := wn_ok S b1 (v := k) (n := 1) (m := 1 + (dig k).length) (by omega) (by show 1 + 10 ≤ 160; decide) rfl rfl
  obtain ⟨g3, a3, b3, c3⟩ := putc_ok S b2 (c := 61) (n := 1 + (dig k).length) (m := 1 + (dig k).length + 1) (by rw [la2]; simp only [List.nil_append, List.length_singleton]; omega) (by rw [la2]; rfl) rfl
  have e3 : ((([] ++ [97 + s]) ++ dig k) ++ [61]).length = 1 + (dig k).length + 1 := by rw [la1, la2]; rfl
  have c13 := (c1.trans c2).trans c3
  obtain ⟨g4, a4, b4, c4⟩ := wn_ok S b3 (v := kA b s k) (n := 1 + (dig k).length + 1) (m := 1 + (dig k).length + 1 + (dig (kA b s k)).length) (by omega) (by omega) e3.symm rfl
  have e4 : (((([] ++ [97 + s]) ++ dig k) ++ [61]) ++ dig (kA b s k)).length = 1 + (dig k).length + 1 + (dig (kA b s k)).length := by rw [la2, e3]
  obtain ⟨g5, a5, b5, c5⟩ := putc_ok S b4 (c := 32) (n := 1 + (dig k).length + 1 + (dig (kA b s k)).length) (m := 1 + (dig k).length + 1 + (dig (kA b s k)).length + 1) (by omega) e4.symm rfl
  have e5 : ((((([] ++ [97 + s]) ++ dig k) ++ [61]) ++ dig (kA b s k)) ++ [32]).length = 1 + (dig k).length + 1 + (dig (kA b s k)).length + 1 := by rw [la1, e4]
  obtain ⟨g6, a6, b6, c6⟩ := putc_ok S b5 (c := 64) (n := 1 + (dig k).length + 1 + (dig (kA b s k)).length + 1) (m := 1 + (dig k).length + 1 + (dig (kA b s k)).length + 1 + 1) (by omega) e5.symm rfl
  have e6 : (((((([] ++ [97 + s]) ++ dig k) ++ [61]) ++ dig (kA b s k)) ++ [32]) ++ [64]).length = 1 + (dig k).length + 1 + (dig (kA b s k)).length + 1 + 1 := by rw [la1, e5]
  have c16 := ((c13.trans c4).trans c5).trans c6
  obtain ⟨g7, a7, b7, c7⟩ := wn_ok S b6 (v := kD b s k) (n := 1 + (dig k).length + 1 + (dig (kA b s k)).length + 1 + 1) (m := (recL b s k).length) (by omega) (by omega) e6.symm (by rw [← e6]; exact la2 _ _)
  have hA := (raw_a S R0 j1 j2' j3' (f' := g3) (fun y => c13 242 y (by decide))).1
  have hD := (raw_a S R0 j1 j2' j3' (f' := g6) (fun y => c16 242 y (by decide))).2
  have F7 : FLi (HI h) (u2 g7 241 15 (nI (recL b s k).length)) := fun a y q1 q2 => by
    rw [w2_ne (by omega), c7 a y q1, c16 a y q1]
    exact F0 a y q1 q2
  refine ⟨u2 g7 241 15 (nI (recL b s k).length), ?_, ⟨b7.fr (fun y => w2_ne (by omega)), w2_eq _ _ _ _⟩, ?_, F7⟩
  · rw [e318]
    simp (disch := omega) only [S.f, hf, hi1, hi2, hg, a1, a2, a3, hA, a4, a5, a6, hD, a7, Nat.succ_ne_self, w2_eq, cond_true, cond_false, bI_ok, bI_er, bV_ok, bV_er, bR_ok, bR_er, bD_ok, bD_er, bF_ok, bF_er, thr_ap, cl_nI, lt_nI, le_nI, eq_nI, m1_lt, nI_m1, m1_nI, nI_lt_m1, add_nI, sub_nI, addm_nI, z_addm, z_subm, mul_nI, fit1_0, fit1_1, fit2_n, HI_wI, HK_wI, HL_wI, HR_wI, ckK_wI, chI_wI, sI_wI, wI_wI, lz0, lz1, lz2, lz3, lz4, lz5, lz6, lz7, lz8, lz9, lz10, lz12, lz13, lz16, lz17, lz20, lz21, lz23, lz26, lz30, lz32, lz35, lz40, lz45, lz48, lz57, lz58, lz59, lz60, lz61, lz63, lz64, lz97, lz99, lz100, lz110, lz111, lz126, lz129, lz132, lz133, lz166, lz169, lz255, lz999, lz1183, lz1800, Nat.reduceAdd, Nat.reduceLT, Nat.reduceEqDiff, Nat.not_lt_zero, Nat.lt_irrefl, ↓reduceIte, Nat.zero_add, Nat.add_zero, ne_eq, not_true_eq_false, not_false_eq_true, reduceCtorEq]
  · rw [w2_ne (by omega), c7 241 16 (by decide), c16 241 16 (by decide)]
    exact k0
end LQ
