/-! THE CLASS: a command read -/
def PgS (h : Hp) : Prop := HK h 221 = 7 ∧ (HR h 221 0 = 222 ∧ HR h 221 2 = 223 ∧ HR h 221 3 = 224 ∧ HR h 221 4 = 225 ∧ HR h 221 5 = 226) ∧ (HK h 222 = 101 ∧ HL h 222 = 60) ∧ (HK h 223 = 100 ∧ HL h 223 = 60) ∧ (HK h 224 = 101 ∧ HL h 224 = 60) ∧ (HK h 225 = 100 ∧ HL h 225 = 60) ∧ (HK h 226 = 100 ∧ HL h 226 = 60)
def TX (f : Nat → Nat → Int32) (x : Nat → Nat) (n : Nat) : Prop := f 221 1 = nI n ∧ n ≤ 60 ∧ ∀ i, i < n → f 222 i = nI (x i) ∧ 32 ≤ x i ∧ x i ≤ 126
def F7 (f f' : Nat → Nat → Int32) : Prop := ∀ a y, ¬(a = 221 ∧ y = 7) → f' a y = f a y
theorem lln_lt (a : Nat) : lln a < 64 := by
  by_cases q : (a - 4) / 2 < 13
  · exact (litc_all _ q).1
  · unfold lln
    have : litA.length = 13 := by decide
    rw [List.getD_eq_getElem?_getD, List.getElem?_eq_none (by omega)]
    decide
section PG
variable {h : Hp} {x : Nat → Nat} {n : Nat}
theorem PgS.wI (S : PgS h) (f : Nat → Nat → Int32) : PgS (wI h f) := S
theorem PgS.f (S : PgS h) : ckK h 221 7 = true ∧ HR h 221 0 = 222 ∧ HR h 221 2 = 223 ∧ HR h 221 3 = 224 ∧ HR h 221 4 = 225 ∧ HR h 221 5 = 226 := ⟨ck_of S.1, S.2.1⟩
theorem PgS.c (S : PgS h) {i : Nat} (hi : i < 60) : chI h 222 101 (nI i) = true ∧ chI h 223 100 (nI i) = true ∧ chI h 224 101 (nI i) = true ∧ chI h 225 100 (nI i) = true ∧ chI h 226 100 (nI i) = true := ⟨chI_nI S.2.2.1.1 S.2.2.1.2 hi (by decide), chI_nI S.2.2.2.1.1 S.2.2.2.1.2 hi (by decide), chI_nI S.2.2.2.2.1.1 S.2.2.2.2.1.2 hi (by decide), chI_nI S.2.2.2.2.2.1.1 S.2.2.2.2.2.1.2 hi (by decide), chI_nI S.2.2.2.2.2.2.1 S.2.2.2.2.2.2.2 hi (by decide)⟩
theorem PgS.ca (S : PgS h) {i c : Nat} (hi : i < 60) (hc : c < 65536) : (chI h 222 101 (nI i) && fitc 2 (nI c)) = true ∧ (chI h 224 101 (nI i) && fitc 2 (nI c)) = true := by
  rw [(S.c hi).1, (S.c hi).2.2.1, fit2_n hc]
  exact ⟨rfl, rfl⟩
theorem TX.f7 {f f' : Nat → Nat → Int32} (T : TX f x n) (H : F7 f f') : TX f' x n := ⟨(H 221 1 (by omega)).trans T.1, T.2.1, fun i hi => by rw [H 222 i (by omega)]; exact T.2.2 i hi⟩
theorem common_ok (S : PgS h) (K : KoS h) {f : Nat → Nat → Int32} (F : Ko f) (T : TX f x n) {p : Nat} (hp : f 221 7 = nI p) (hpn : p ≤ n) {a : Nat} (h1 : 4 ≤ a) (h2 : a < 30) (h3 : a % 2 = 0) : CL 165 [.ref 221, .ref a] (wI h f) = some (.ok (.int (nI (cmm x n p a))), wI h f) := by
  obtain ⟨t1, t2, t3⟩ := T
  have hll := lln_lt a
  have hlen := strLen_ok (f := f) K F h1 h2 h3
  have hck : ckK h a 11 = true := by
    obtain ⟨k1, _⟩ := K a (by omega) h2
    refine ck_of ?_
    show (h.2.1 a).1 = 11
    rw [k1]
    unfold kcT
    rw [if_neg (by omega), if_neg (by omega), if_pos h2, if_pos h3]
  rw [e165]
  simp only [lz0]
  refine (lpFst (p := fun i => !decide (p + i < n ∧ x (p + i) = lch a i)) (n := lln a) (F := fun i => RF 165 4 [.ref 221, .ref a, .int (nI i), .int (nI i)] [] (wI h f)) (found := fun i => some (.ok (.int (nI i)), wI h f)) (dflt := some (.ok (.int (nI (lln a))), wI h f)) (fun i hi => ?_) ?_).trans ?_
  · have hch := charAt_ok (f := f) K F h1 h2 h3 hi
    have hl8 : lch a i < 128 := ((litc_all ((a - 4) / 2) (by omega)).2 i hi).2
    rw [e165_4]
    by_cases q : p + i < n
    · obtain ⟨y1, y2, y3⟩ := t3 (p + i) q
      by_cases q2 : x (p + i) = lch a i
      · have hz : (!decide (p + i < n ∧ x (p + i) = lch a i)) = false := by rw [decide_eq_true ⟨q, q2⟩]; rfl
        rw [q2] at y1
        try dsimp only
        rw [hz]
        simp (disch := omega) only [S.f, S.c (show p + i < 60 by omega), hck, hlen, hi, hp, t1, q, y1, hch, Bool.false_eq_true, cond_true, cond_false, bI_ok, bI_er, bV_ok, bV_er, bR_ok, bR_er, bD_ok, bD_er, bF_ok, bF_er, thr_ap, cl_nI, lt_nI, le_nI, eq_nI, m1_lt, nI_m1, m1_nI, nI_lt_m1, add_nI, sub_nI, addm_nI, z_addm, z_subm, mul_nI, fit1_0, fit1_1, fit2_n, HI_wI, HK_wI, HL_wI, HR_wI, ckK_wI, chI_wI, sI_wI, wI_wI, lz0, lz1, lz2, lz3, lz4, lz5, lz6, lz7, lz8, lz9, lz10, lz12, lz13, lz16, lz17, lz20, lz21, lz23, lz26, lz30, lz32, lz35, lz40, lz45, lz48, lz57, lz58, lz59, lz60, lz61, lz63, lz64, lz97, lz99, lz100, lz110, lz111, lz126, lz129, lz132, lz133, lz166, lz169, lz255, lz999, lz1183, lz1800, Nat.reduceAdd, Nat.reduceLT, Nat.reduceEqDiff, Nat.not_lt_zero, Nat.lt_irrefl, ↓reduceIte, Nat.zero_add, Nat.add_zero, ne_eq, not_true_eq_false, not_false_eq_true, reduceCtorEq]
      · have hz : (!decide (p + i < n ∧ x (p + i) = lch a i)) = true := by rw [decide_eq_false (fun z => q2 z.2)]; rfl
        try dsimp only
        rw [hz]
        simp (disch := omega) only [S.f, S.c (show p + i < 60 by omega), hck, hlen, hi, hp, t1, q, y1, hch, q2, cond_true, cond_false, bI_ok, bI_er, bV_ok, bV_er, bR_ok, bR_er, bD_ok, bD_er, bF_ok, bF_er, thr_ap, cl_nI, lt_nI, le_nI, eq_nI, m1_lt, nI_m1, m1_nI, nI_lt_m1, add_nI, sub_nI, addm_nI, z_addm, z_subm, mul_nI, fit1_0, fit1_1, fit2_n, HI_wI, HK_wI, HL_wI, HR_wI, ckK_wI, chI_wI, sI_wI, wI_wI, lz0, lz1, lz2, lz3, lz4, lz5, lz6, lz7, lz8, lz9, lz10, lz12, lz13, lz16, lz17, lz20, lz21, lz23, lz26, lz30, lz32, lz35, lz40, lz45, lz48, lz57, lz58, lz59, lz60, lz61, lz63, lz64, lz97, lz99, lz100, lz110, lz111, lz126, lz129, lz132, lz133, lz166, lz169, lz255, lz999, lz1183, lz1800, Nat.reduceAdd, Nat.reduceLT, Nat.reduceEqDiff, Nat.not_lt_zero, Nat.lt_irrefl, ↓reduceIte, Nat.zero_add, Nat.add_zero, ne_eq, not_true_eq_false, not_false_eq_true, reduceCtorEq]
    · have hz : (!decide (p + i < n ∧ x (p + i) = lch a i)) = true := by rw [decide_eq_false (fun z => q z.1)]; rfl
      try dsimp only
      rw [hz]
      simp (disch := omega) only [S.f, hck, hlen, hi, hp, t1, q, cond_true, cond_false, bI_ok, bI_er, bV_ok, bV_er, bR_ok, bR_er, bD_ok, bD_er, bF_ok, bF_er, thr_ap, cl_nI, lt_nI, le_nI, eq_nI, m1_lt, nI_m1, m1_nI, nI_lt_m1, add_nI, sub_nI, addm_nI, z_addm, z_subm, mul_nI, fit1_0, fit1_1, fit2_n, HI_wI, HK_wI, HL_wI, HR_wI, ckK_wI, chI_wI, sI_wI, wI_wI, lz0, lz1, lz2, lz3, lz4, lz5, lz6, lz7, lz8, lz9, lz10, lz12, lz13, lz16, lz17, lz20, lz21, lz23, lz26, lz30, lz32, lz35, lz40, lz45, lz48, lz57, lz58, lz59, lz60, lz61, lz63, lz64, lz97, lz99, lz100, lz110, lz111, lz126, lz129, lz132, lz133, lz166, lz169, lz255, lz999, lz1183, lz1800, Nat.reduceAdd, Nat.reduceLT, Nat.reduceEqDiff, Nat.not_lt_zero, Nat.lt_irrefl, ↓reduceIte, Nat.zero_add, Nat.add_zero, ne_eq, not_true_eq_false, not_false_eq_true, reduceCtorEq]
  · rw [e165_4]
    simp (disch := omega) only [S.f, hck, hlen, cond_true, cond_false, bI_ok, bI_er, bV_ok, bV_er, bR_ok, bR_er, bD_ok, bD_er, bF_ok, bF_er, thr_ap, cl_nI, lt_nI, le_nI, eq_nI, m1_lt, nI_m1, m1_nI, nI_lt_m1, add_nI, sub_nI, addm_nI, z_addm, z_subm, mul_nI, fit1_0, fit1_1, fit2_n, HI_wI, HK_wI, HL_wI, HR_wI, ckK_wI, chI_wI, sI_wI, wI_wI, lz0, lz1, lz2, lz3, lz4, lz5, lz6, lz7, lz8, lz9, lz10, lz12, lz13, lz16, lz17, lz20, lz21, lz23, lz26, lz30, lz32, lz35, lz40, lz45, lz48, lz57, lz58, lz59, lz60, lz61, lz63, lz64, lz97, lz99, lz100, lz110, lz111, lz126, lz129, lz132, lz133, lz166, lz169, lz255, lz999, lz1183, lz1800, Nat.reduceAdd, Nat.reduceLT, Nat.reduceEqDiff, Nat.not_lt_zero, Nat.lt_irrefl, ↓reduceIte, Nat.zero_add, Nat.add_zero, ne_eq, not_true_eq_false, not_false_eq_true, reduceCtorEq]
  · unfold cmm
    cases fst? (fun i => !decide (p + i < n ∧ x (p + i) = lch a i)) (lln a) <;> rfl
theorem keyword_ok {w : Nat} (hw : w < 7) (g : Hp) : CL 161 [.int (nI w)] g = some (.ok (.ref (12 + 2 * w)), g) := by
  have hw' : w = 0 ∨ w = 1 ∨ w = 2 ∨ w = 3 ∨ w = 4 ∨ w = 5 ∨ w = 6 := by omega
  rcases hw' with rfl | rfl | rfl | rfl | rfl | rfl | rfl
  · exact ((e161 ..).trans ((e161_1 ..).trans rfl : _ = RF 161 40 [.int (nI 0)] [] g)).trans (e161_40 ..)
  · exact ((e161 ..).trans ((e161_1 ..).trans rfl : _ = RF 161 43 [.int (nI 1)] [] g)).trans (e161_43 ..)
  · exact ((e161 ..).trans ((e161_1 ..).trans rfl : _ = RF 161 46 [.int (nI 2)] [] g)).trans (e161_46 ..)
  · exact ((e161 ..).trans ((e161_1 ..).trans rfl : _ = RF 161 49 [.int (nI 3)] [] g)).trans (e161_49 ..)
  · exact ((e161 ..).trans ((e161_1 ..).trans rfl : _ = RF 161 52 [.int (nI 4)] [] g)).trans (e161_52 ..)
  · exact ((e161 ..).trans ((e161_1 ..).trans rfl : _ = RF 161 55 [.int (nI 5)] [] g)).trans (e161_55 ..)
  · exact ((e161 ..).trans ((e161_1 ..).trans rfl : _ = RF 161 58 [.int (nI 6)] [] g)).trans (e161_58 ..)
theorem readKeyword_ok (S : PgS h) (K : KoS h) {f : Nat → Nat → Int32} (F : Ko f) (T : TX f x n) {p : Nat} (hp : f 221 7 = nI p) (hpn : p ≤ n) : match kwA x n p with
    | some w => CL 166 [.ref 221] (wI h f) = some (.ok (.int (nI w)), wI h (u2 f 221 7 (nI (p + lln (12 + 2 * w)))))
    | none => CL 166 [.ref 221] (wI h f) = some (.ok (.int (-nI 1)), wI h (u2 f 221 7 (nI (p + lgA x n p 7)))) := by
  have hn60 := T.2.1
  have key : ∀ (k i : Nat) (v w : Value), i + k = 7 → (∀ j, j < i → cmm x n p (12 + 2 * j) ≠ lln (12 + 2 * j)) → match kwA x n p with
      | some y => RF 166 4 [.ref 221, .int (nI (lgA x n p i)), .int (nI i), v, w] [] (wI h f) = some (.ok (.int (nI y)), wI h (u2 f 221 7 (nI (p + lln (12 + 2 * y)))))
      | none => RF 166 4 [.ref 221, .int (nI (lgA x n p i)), .int (nI i), v, w] [] (wI h f) = some (.ok (.int (-nI 1)), wI h (u2 f 221 7 (nI (p + lgA x n p 7)))) := by
    intro k
    induction k with
    | zero =>
      intro i v w hk hno
      have e : i = 7 := by omega
      subst e
      have hkw : kwA x n p = none := fst_none.mpr (fun j hj => decide_eq_false (hno j hj))
      have hlg := lgA_n (x := x) hpn 7
      rw [hkw]
      dsimp only
      rw [e166_4]
      simp (disch := omega) only [S.f, hp, cond_true, cond_false, bI_ok, bI_er, bV_ok, bV_er, bR_ok, bR_er, bD_ok, bD_er, bF_ok, bF_er, thr_ap, cl_nI, lt_nI, le_nI, eq_nI, m1_lt, nI_m1, m1_nI, nI_lt_m1, add_nI, sub_nI, addm_nI, z_addm, z_subm, mul_nI, fit1_0, fit1_1, fit2_n, HI_wI, HK_wI, HL_wI, HR_wI, ckK_wI, chI_wI, sI_wI, wI_wI, lz0, lz1, lz2, lz3, lz4, lz5, lz6, lz7, lz8, lz9, lz10, lz12, lz13, lz16, lz17, lz20, lz21, lz23, lz26, lz30, lz32, lz35, lz40, lz45, lz48, lz57, lz58, lz59, lz60, lz61, lz63, lz64, lz97, lz99, lz100, lz110, lz111, lz126, lz129, lz132, lz133, lz166, lz169, lz255, lz999, lz1183, lz1800, Nat.reduceAdd, Nat.reduceLT, Nat.reduceEqDiff, Nat.not_lt_zero, Nat.lt_irrefl, ↓reduceIte, Nat.zero_add, Nat.add_zero, ne_eq, not_true_eq_false, not_false_eq_true, reduceCtorEq]
    | succ k ih =>
      intro i v w hk hno
      have hi : i < 7 := by omega
      have hkey := keyword_ok hi (wI h f)
      have hcom := common_ok S K F T hp hpn (a := 12 + 2 * i) (by omega) (by omega) (by omega)
      have hlen := strLen_ok (f := f) K F (a := 12 + 2 * i) (by omega) (by omega) (by omega)
      have hll := lln_lt (12 + 2 * i)
      have hcl := cmm_le x n p (12 + 2 * i)
      have hlg := (lgA_n (x := x) hpn i).2
      have hck : ckK h (12 + 2 * i) 11 = true := by
        obtain ⟨k1, _⟩ := K (12 + 2 * i) (by omega) (by omega)
        refine ck_of ?_
        show (h.2.1 (12 + 2 * i)).1 = 11
        rw [k1]
        unfold kcT
        rw [if_neg (by omega), if_neg (by omega), if_pos (by omega), if_pos (by omega)]
      by_cases q : cmm x n p (12 + 2 * i) = lln (12 + 2 * i)
      · have hkw : kwA x n p = some i := fst_some.mpr ⟨hi, decide_eq_true q, fun j hj => decide_eq_false (hno j hj)⟩
        rw [q] at hcom
        rw [hkw]
        dsimp only
        rw [e166_4]
        simp (disch := omega) only [S.f, hi, hkey, hcom, hck, hlen, hp, cond_true, cond_false, bI_ok, bI_er, bV_ok, bV_er, bR_ok, bR_er, bD_ok, bD_er, bF_ok, bF_er, thr_ap, cl_nI, lt_nI, le_nI, eq_nI, m1_lt, nI_m1, m1_nI, nI_lt_m1, add_nI, sub_nI, addm_nI, z_addm, z_subm, mul_nI, fit1_0, fit1_1, fit2_n, HI_wI, HK_wI, HL_wI, HR_wI, ckK_wI, chI_wI, sI_wI, wI_wI, lz0, lz1, lz2, lz3, lz4, lz5, lz6, lz7, lz8, lz9, lz10, lz12, lz13, lz16, lz17, lz20, lz21, lz23, lz26, lz30, lz32, lz35, lz40, lz45, lz48, lz57, lz58, lz59, lz60, lz61, lz63, lz64, lz97, lz99, lz100, lz110, lz111, lz126, lz129, lz132, lz133, lz166, lz169, lz255, lz999, lz1183, lz1800, Nat.reduceAdd, Nat.reduceLT, Nat.reduceEqDiff, Nat.not_lt_zero, Nat.lt_irrefl, ↓reduceIte, Nat.zero_add, Nat.add_zero, ne_eq, not_true_eq_false, not_false_eq_true, reduceCtorEq]
      · have hz := ih (i + 1) (.ref (12 + 2 * i)) (.int (nI (cmm x n p (12 + 2 * i)))) (by omega) (fun j hj => by
          by_cases z : j = i
          · rw [z]
            exact q
          · exact hno j (by omega))
        have hmax : (if lgA x n p i < cmm x n p (12 + 2 * i) then nI (cmm x n p (12 + 2 * i)) else nI (lgA x n p i)) = nI (lgA x n p (i + 1)) := by
          simp only [lgA]
          split <;> rfl
        have e : RF 166 4 [.ref 221, .int (nI (lgA x n p i)), .int (nI i), v, w] [] (wI h f) = RF 166 4 [.ref 221, .int (nI (lgA x n p (i + 1))), .int (nI (i + 1)), .ref (12 + 2 * i), .int (nI (cmm x n p (12 + 2 * i)))] [] (wI h f) := by
          rw [e166_4]
          simp (disch := omega) only [S.f, hi, hkey, hcom, hck, hlen, q, hmax, cond_true, cond_false, bI_ok, bI_er, bV_ok, bV_er, bR_ok, bR_er, bD_ok, bD_er, bF_ok, bF_er, thr_ap, cl_nI, lt_nI, le_nI, eq_nI, m1_lt, nI_m1, m1_nI, nI_lt_m1, add_nI, sub_nI, addm_nI, z_addm, z_subm, mul_nI, fit1_0, fit1_1, fit2_n, HI_wI, HK_wI, HL_wI, HR_wI, ckK_wI, chI_wI, sI_wI, wI_wI, lz0, lz1, lz2, lz3, lz4, lz5, lz6, lz7, lz8, lz9, lz10, lz12, lz13, lz16, lz17, lz20, lz21, lz23, lz26, lz30, lz32, lz35, lz40, lz45, lz48, lz57, lz58, lz59, lz60, lz61, lz63, lz64, lz97, lz99, lz100, lz110, lz111, lz126, lz129, lz132, lz133, lz166, lz169, lz255, lz999, lz1183, lz1800, Nat.reduceAdd, Nat.reduceLT, Nat.reduceEqDiff, Nat.not_lt_zero, Nat.lt_irrefl, ↓reduceIte, Nat.zero_add, Nat.add_zero, ne_eq, not_true_eq_false, not_false_eq_true, reduceCtorEq]
        rw [e]
        exact hz
  rw [e166]
  exact key 7 0 .null .null (by omega) (fun j hj => absurd hj (Nat.not_lt_zero j))
theorem readNum_ok (S : PgS h) {f : Nat → Nat → Int32} (T : TX f x n) {p most : Nat} (hp : f 221 7 = nI p) (hpn : p ≤ n) (hm : 1 ≤ most) (hm3 : most ≤ 3) : match numA' x n most p with
    | some r => ∃ f', CL 168 [.ref 221, .int (nI most)] (wI h f) = some (.ok (.int (nI r.1)), wI h f') ∧ f' 221 7 = nI r.2 ∧ F7 f f'
    | none => CL 168 [.ref 221, .int (nI most)] (wI h f) = some (.ok (.int (-nI 1)), wI h f) := by
  obtain ⟨t1, t2, t3⟩ := T
  have loop : ∀ (k p v d : Nat) (w : Value) (g : Nat → Nat → Int32), d + k = most → F7 f g → g 221 7 = nI p → p ≤ n → v < 10 ^ d → ∃ f', RF 168 4 [.ref 221, .int (nI most), .int (nI v), .int (nI d), w] [] (wI h g) = some (.ok (.int (nI (dgA x n k p v).1)), wI h f') ∧ f' 221 7 = nI (dgA x n k p v).2 ∧ F7 f f' := by
    intro k
    induction k with
    | zero =>
      intro p v d w g hd H hg hpn hv
      refine ⟨g, ?_, hg, H⟩
      rw [e168_4]
      simp (disch := omega) only [show ¬(d < most) by omega, dgA, cond_true, cond_false, bI_ok, bI_er, bV_ok, bV_er, bR_ok, bR_er, bD_ok, bD_er, bF_ok, bF_er, thr_ap, cl_nI, lt_nI, le_nI, eq_nI, m1_lt, nI_m1, m1_nI, nI_lt_m1, add_nI, sub_nI, addm_nI, z_addm, z_subm, mul_nI, fit1_0, fit1_1, fit2_n, HI_wI, HK_wI, HL_wI, HR_wI, ckK_wI, chI_wI, sI_wI, wI_wI, lz0, lz1, lz2, lz3, lz4, lz5, lz6, lz7, lz8, lz9, lz10, lz12, lz13, lz16, lz17, lz20, lz21, lz23, lz26, lz30, lz32, lz35, lz40, lz45, lz48, lz57, lz58, lz59, lz60, lz61, lz63, lz64, lz97, lz99, lz100, lz110, lz111, lz126, lz129, lz132, lz133, lz166, lz169, lz255, lz999, lz1183, lz1800, Nat.reduceAdd, Nat.reduceLT, Nat.reduceEqDiff, Nat.not_lt_zero, Nat.lt_irrefl, ↓reduceIte, Nat.zero_add, Nat.add_zero, ne_eq, not_true_eq_false, not_false_eq_true, reduceCtorEq]
    | succ k ih =>
      intro p v d w g hd H hg hpn hv
      have g1 : g 221 1 = nI n := (H 221 1 (by omega)).trans t1
      have hv4 : v < 10000 := by
        have : 10 ^ d ≤ 10 ^ 3 := Nat.pow_le_pow_right (by decide) (by omega)
        omega
      by_cases q : isD x n p = true
      · have hq := of_decide_eq_true q
        obtain ⟨y1, y2, y3⟩ := t3 p hq.1
        have gp : g 222 p = nI (x p) := (H 222 p (by omega)).trans y1
        obtain ⟨f', k1, k2, k3⟩ := ih (p + 1) (v * 10 + (x p - 48)) (d + 1) (.int (nI (x p))) (u2 g 221 7 (nI (p + 1))) (by omega) (fun a y hne => (w2_ne hne).trans (H a y hne)) (w2_eq _ _ _ _) (by omega) (by rw [Nat.pow_succ]; omega)
        refine ⟨f', ?_, ?_, k3⟩
        · simp only [dgA]
          rw [if_pos q, ← k1, e168_4]
          simp (disch := omega) only [S.f, S.c (show p < 60 by omega), show d < most by omega, hg, g1, hq.1, gp, show ¬(x p < 48) by omega, show ¬(57 < x p) by omega, neg_nI, cond_true, cond_false, bI_ok, bI_er, bV_ok, bV_er, bR_ok, bR_er, bD_ok, bD_er, bF_ok, bF_er, thr_ap, cl_nI, lt_nI, le_nI, eq_nI, m1_lt, nI_m1, m1_nI, nI_lt_m1, add_nI, sub_nI, addm_nI, z_addm, z_subm, mul_nI, fit1_0, fit1_1, fit2_n, HI_wI, HK_wI, HL_wI, HR_wI, ckK_wI, chI_wI, sI_wI, wI_wI, lz0, lz1, lz2, lz3, lz4, lz5, lz6, lz7, lz8, lz9, lz10, lz12, lz13, lz16, lz17, lz20, lz21, lz23, lz26, lz30, lz32, lz35, lz40, lz45, lz48, lz57, lz58, lz59, lz60, lz61, lz63, lz64, lz97, lz99, lz100, lz110, lz111, lz126, lz129, lz132, lz133, lz166, lz169, lz255, lz999, lz1183, lz1800, Nat.reduceAdd, Nat.reduceLT, Nat.reduceEqDiff, Nat.not_lt_zero, Nat.lt_irrefl, ↓reduceIte, Nat.zero_add, Nat.add_zero, ne_eq, not_true_eq_false, not_false_eq_true, reduceCtorEq]
        · simp only [dgA]
          rw [if_pos q]
          exact k2
      · refine ⟨g, ?_, ?_, H⟩
        · simp only [dgA]
          rw [if_neg q, e168_4]
          by_cases q1 : p < n
          · obtain ⟨y1, y2, y3⟩ := t3 p q1
            have gp : g 222 p = nI (x p) := (H 222 p (by omega)).trans y1
            by_cases q2 : x p < 48
            · simp (disch := omega) only [S.f, S.c (show p < 60 by omega), show d < most by omega, hg, g1, q1, gp, q2, cond_true, cond_false, bI_ok, bI_er, bV_ok, bV_er, bR_ok, bR_er, bD_ok, bD_er, bF_ok, bF_er, thr_ap, cl_nI, lt_nI, le_nI, eq_nI, m1_lt, nI_m1, m1_nI, nI_lt_m1, add_nI, sub_nI, addm_nI, z_addm, z_subm, mul_nI, fit1_0, fit1_1, fit2_n, HI_wI, HK_wI, HL_wI, HR_wI, ckK_wI, chI_wI, sI_wI, wI_wI, lz0, lz1, lz2, lz3, lz4, lz5, lz6, lz7, lz8, lz9, lz10, lz12, lz13, lz16, lz17, lz20, lz21, lz23, lz26, lz30, lz32, lz35, lz40, lz45, lz48, lz57, lz58, lz59, lz60, lz61, lz63, lz64, lz97, lz99, lz100, lz110, lz111, lz126, lz129, lz132, lz133, lz166, lz169, lz255, lz999, lz1183, lz1800, Nat.reduceAdd, Nat.reduceLT, Nat.reduceEqDiff, Nat.not_lt_zero, Nat.lt_irrefl, ↓reduceIte, Nat.zero_add, Nat.add_zero, ne_eq, not_true_eq_false, not_false_eq_true, reduceCtorEq]
            · have q3 : 57 < x p := by
                by_cases z : x p ≤ 57
                · exact absurd (decide_eq_true ⟨q1, by omega, z⟩) q
                · omega
              simp (disch := omega) only [S.f, S.c (show p < 60 by omega), show d < most by omega, hg, g1, q1, gp, q2, q3, cond_true, cond_false, bI_ok, bI_er, bV_ok, bV_er, bR_ok, bR_er, bD_ok, bD_er, bF_ok, bF_er, thr_ap, cl_nI, lt_nI, le_nI, eq_nI, m1_lt, nI_m1, m1_nI, nI_lt_m1, add_nI, sub_nI, addm_nI, z_addm, z_subm, mul_nI, fit1_0, fit1_1, fit2_n, HI_wI, HK_wI, HL_wI, HR_wI, ckK_wI, chI_wI, sI_wI, wI_wI, lz0, lz1, lz2, lz3, lz4, lz5, lz6, lz7, lz8, lz9, lz10, lz12, lz13, lz16, lz17, lz20, lz21, lz23, lz26, lz30, lz32, lz35, lz40, lz45, lz48, lz57, lz58, lz59, lz60, lz61, lz63, lz64, lz97, lz99, lz100, lz110, lz111, lz126, lz129, lz132, lz133, lz166, lz169, lz255, lz999, lz1183, lz1800, Nat.reduceAdd, Nat.reduceLT, Nat.reduceEqDiff, Nat.not_lt_zero, Nat.lt_irrefl, ↓reduceIte, Nat.zero_add, Nat.add_zero, ne_eq, not_true_eq_false, not_false_eq_true, reduceCtorEq]
          · simp (disch := omega) only [S.f, show d < most by omega, hg, g1, q1, cond_true, cond_false, bI_ok, bI_er, bV_ok, bV_er, bR_ok, bR_er, bD_ok, bD_er, bF_ok, bF_er, thr_ap, cl_nI, lt_nI, le_nI, eq_nI, m1_lt, nI_m1, m1_nI, nI_lt_m1, add_nI, sub_nI, addm_nI, z_addm, z_subm, mul_nI, fit1_0, fit1_1, fit2_n, HI_wI, HK_wI, HL_wI, HR_wI, ckK_wI, chI_wI, sI_wI, wI_wI, lz0, lz1, lz2, lz3, lz4, lz5, lz6, lz7, lz8, lz9, lz10, lz12, lz13, lz16, lz17, lz20, lz21, lz23, lz26, lz30, lz32, lz35, lz40, lz45, lz48, lz57, lz58, lz59, lz60, lz61, lz63, lz64, lz97, lz99, lz100, lz110, lz111, lz126, lz129, lz132, lz133, lz166, lz169, lz255, lz999, lz1183, lz1800, Nat.reduceAdd, Nat.reduceLT, Nat.reduceEqDiff, Nat.not_lt_zero, Nat.lt_irrefl, ↓reduceIte, Nat.zero_add, Nat.add_zero, ne_eq, not_true_eq_false, not_false_eq_true, reduceCtorEq]
        · simp only [dgA]
          rw [if_neg q]
          exact hg
  unfold numA'
  by_cases q : isD x n p = true
  · rw [if_pos q]
    dsimp only
    have hq := of_decide_eq_true q
    obtain ⟨y1, y2, y3⟩ := t3 p hq.1
    obtain ⟨f', k1, k2, k3⟩ := loop (most - 1) (p + 1) (x p - 48) 1 (.int (nI (x p))) (u2 f 221 7 (nI (p + 1))) (by omega) (fun a y hne => w2_ne hne) (w2_eq _ _ _ _) (by omega) (by omega)
    refine ⟨f', ?_, k2, k3⟩
    rw [← k1, e168]
    have hst : RF 168 4 [.ref 221, .int (nI most), .int (-1), .int (nI 0), .null] [] (wI h f) = RF 168 4 [.ref 221, .int (nI most), .int (nI (x p - 48)), .int (nI 1), .int (nI (x p))] [] (wI h (u2 f 221 7 (nI (p + 1)))) := by
      rw [e168_4]
      simp (disch := omega) only [S.f, S.c (show p < 60 by omega), show 0 < most by omega, hp, t1, hq.1, y1, show ¬(x p < 48) by omega, show ¬(57 < x p) by omega, m1_lt0, cond_true, cond_false, bI_ok, bI_er, bV_ok, bV_er, bR_ok, bR_er, bD_ok, bD_er, bF_ok, bF_er, thr_ap, cl_nI, lt_nI, le_nI, eq_nI, m1_lt, nI_m1, m1_nI, nI_lt_m1, add_nI, sub_nI, addm_nI, z_addm, z_subm, mul_nI, fit1_0, fit1_1, fit2_n, HI_wI, HK_wI, HL_wI, HR_wI, ckK_wI, chI_wI, sI_wI, wI_wI, lz0, lz1, lz2, lz3, lz4, lz5, lz6, lz7, lz8, lz9, lz10, lz12, lz13, lz16, lz17, lz20, lz21, lz23, lz26, lz30, lz32, lz35, lz40, lz45, lz48, lz57, lz58, lz59, lz60, lz61, lz63, lz64, lz97, lz99, lz100, lz110, lz111, lz126, lz129, lz132, lz133, lz166, lz169, lz255, lz999, lz1183, lz1800, Nat.reduceAdd, Nat.reduceLT, Nat.reduceEqDiff, Nat.not_lt_zero, Nat.lt_irrefl, ↓reduceIte, Nat.zero_add, Nat.add_zero, ne_eq, not_true_eq_false, not_false_eq_true, reduceCtorEq]
    exact hst
  · rw [if_neg q]
    dsimp only
    rw [e168]
    have hst : RF 168 4 [.ref 221, .int (nI most), .int (-nI 1), .int (nI 0), .null] [] (wI h f) = some (.ok (.int (-nI 1)), wI h f) := by
      rw [e168_4]
      by_cases q1 : p < n
      · obtain ⟨y1, y2, y3⟩ := t3 p q1
        by_cases q2 : x p < 48
        · simp (disch := omega) only [S.f, S.c (show p < 60 by omega), show 0 < most by omega, hp, t1, q1, y1, q2, cond_true, cond_false, bI_ok, bI_er, bV_ok, bV_er, bR_ok, bR_er, bD_ok, bD_er, bF_ok, bF_er, thr_ap, cl_nI, lt_nI, le_nI, eq_nI, m1_lt, nI_m1, m1_nI, nI_lt_m1, add_nI, sub_nI, addm_nI, z_addm, z_subm, mul_nI, fit1_0, fit1_1, fit2_n, HI_wI, HK_wI, HL_wI, HR_wI, ckK_wI, chI_wI, sI_wI, wI_wI, lz0, lz1, lz2, lz3, lz4, lz5, lz6, lz7, lz8, lz9, lz10, lz12, lz13, lz16, lz17, lz20, lz21, lz23, lz26, lz30, lz32, lz35, lz40, lz45, lz48, lz57, lz58, lz59, lz60, lz61, lz63, lz64, lz97, lz99, lz100, lz110, lz111, lz126, lz129, lz132, lz133, lz166, lz169, lz255, lz999, lz1183, lz1800, Nat.reduceAdd, Nat.reduceLT, Nat.reduceEqDiff, Nat.not_lt_zero, Nat.lt_irrefl, ↓reduceIte, Nat.zero_add, Nat.add_zero, ne_eq, not_true_eq_false, not_false_eq_true, reduceCtorEq]
        · have q3 : 57 < x p := by
            by_cases z : x p ≤ 57
            · exact absurd (decide_eq_true ⟨q1, by omega, z⟩) q
            · omega
          simp (disch := omega) only [S.f, S.c (show p < 60 by omega), show 0 < most by omega, hp, t1, q1, y1, q2, q3, cond_true, cond_false, bI_ok, bI_er, bV_ok, bV_er, bR_ok, bR_er, bD_ok, bD_er, bF_ok, bF_er, thr_ap, cl_nI, lt_nI, le_nI, eq_nI, m1_lt, nI_m1, m1_nI, nI_lt_m1, add_nI, sub_nI, addm_nI, z_addm, z_subm, mul_nI, fit1_0, fit1_1, fit2_n, HI_wI, HK_wI, HL_wI, HR_wI, ckK_wI, chI_wI, sI_wI, wI_wI, lz0, lz1, lz2, lz3, lz4, lz5, lz6, lz7, lz8, lz9, lz10, lz12, lz13, lz16, lz17, lz20, lz21, lz23, lz26, lz30, lz32, lz35, lz40, lz45, lz48, lz57, lz58, lz59, lz60, lz61, lz63, lz64, lz97, lz99, lz100, lz110, lz111, lz126, lz129, lz132, lz133, lz166, lz169, lz255, lz999, lz1183, lz1800, Nat.reduceAdd, Nat.reduceLT, Nat.reduceEqDiff, Nat.not_lt_zero, Nat.lt_irrefl, ↓reduceIte, Nat.zero_add, Nat.add_zero, ne_eq, not_true_eq_false, not_false_eq_true, reduceCtorEq]
      · simp (disch := omega) only [S.f, show 0 < most by omega, hp, t1, q1, cond_true, cond_false, bI_ok, bI_er, bV_ok, bV_er, bR_ok, bR_er, bD_ok, bD_er, bF_ok, bF_er, thr_ap, cl_nI, lt_nI, le_nI, eq_nI, m1_lt, nI_m1, m1_nI, nI_lt_m1, add_nI, sub_nI, addm_nI, z_addm, z_subm, mul_nI, fit1_0, fit1_1, fit2_n, HI_wI, HK_wI, HL_wI, HR_wI, ckK_wI, chI_wI, sI_wI, wI_wI, lz0, lz1, lz2, lz3, lz4, lz5, lz6, lz7, lz8, lz9, lz10, lz12, lz13, lz16, lz17, lz20, lz21, lz23, lz26, lz30, lz32, lz35, lz40, lz45, lz48, lz57, lz58, lz59, lz60, lz61, lz63, lz64, lz97, lz99, lz100, lz110, lz111, lz126, lz129, lz132, lz133, lz166, lz169, lz255, lz999, lz1183, lz1800, Nat.reduceAdd, Nat.reduceLT, Nat.reduceEqDiff, Nat.not_lt_zero, Nat.lt_irrefl, ↓reduceIte, Nat.zero_add, Nat.add_zero, ne_eq, not_true_eq_false, not_false_eq_true, reduceCtorEq]
    exact hst
theorem skip_ok (S : PgS h) {f : Nat → Nat → Int32} (T : TX f x n) {p c : Nat} (hp : f 221 7 = nI p) (hpn : p ≤ n) (hc : c < 128) : CL 170 [.ref 221, .int (nI c)] (wI h f) = if p < n ∧ x p = c then some (.ok (.int (nI 1)), wI h (u2 f 221 7 (nI (p + 1)))) else some (.ok (.int (nI 0)), wI h f) := by
  obtain ⟨t1, t2, t3⟩ := T
  rw [e170]
  by_cases q1 : p < n
  · obtain ⟨y1, y2, y3⟩ := t3 p q1
    by_cases q2 : x p = c
    · rw [if_pos (show p < n ∧ x p = c from ⟨q1, q2⟩)]
      rw [q2] at y1
      simp (disch := omega) only [S.f, S.c (show p < 60 by omega), hp, t1, q1, y1, cond_true, cond_false, bI_ok, bI_er, bV_ok, bV_er, bR_ok, bR_er, bD_ok, bD_er, bF_ok, bF_er, thr_ap, cl_nI, lt_nI, le_nI, eq_nI, m1_lt, nI_m1, m1_nI, nI_lt_m1, add_nI, sub_nI, addm_nI, z_addm, z_subm, mul_nI, fit1_0, fit1_1, fit2_n, HI_wI, HK_wI, HL_wI, HR_wI, ckK_wI, chI_wI, sI_wI, wI_wI, lz0, lz1, lz2, lz3, lz4, lz5, lz6, lz7, lz8, lz9, lz10, lz12, lz13, lz16, lz17, lz20, lz21, lz23, lz26, lz30, lz32, lz35, lz40, lz45, lz48, lz57, lz58, lz59, lz60, lz61, lz63, lz64, lz97, lz99, lz100, lz110, lz111, lz126, lz129, lz132, lz133, lz166, lz169, lz255, lz999, lz1183, lz1800, Nat.reduceAdd, Nat.reduceLT, Nat.reduceEqDiff, Nat.not_lt_zero, Nat.lt_irrefl, ↓reduceIte, Nat.zero_add, Nat.add_zero, ne_eq, not_true_eq_false, not_false_eq_true, reduceCtorEq]
    · rw [if_neg (show ¬(p < n ∧ x p = c) from fun z => q2 z.2)]
      simp (disch := omega) only [S.f, S.c (show p < 60 by omega), hp, t1, q1, y1, q2, cond_true, cond_false, bI_ok, bI_er, bV_ok, bV_er, bR_ok, bR_er, bD_ok, bD_er, bF_ok, bF_er, thr_ap, cl_nI, lt_nI, le_nI, eq_nI, m1_lt, nI_m1, m1_nI, nI_lt_m1, add_nI, sub_nI, addm_nI, z_addm, z_subm, mul_nI, fit1_0, fit1_1, fit2_n, HI_wI, HK_wI, HL_wI, HR_wI, ckK_wI, chI_wI, sI_wI, wI_wI, lz0, lz1, lz2, lz3, lz4, lz5, lz6, lz7, lz8, lz9, lz10, lz12, lz13, lz16, lz17, lz20, lz21, lz23, lz26, lz30, lz32, lz35, lz40, lz45, lz48, lz57, lz58, lz59, lz60, lz61, lz63, lz64, lz97, lz99, lz100, lz110, lz111, lz126, lz129, lz132, lz133, lz166, lz169, lz255, lz999, lz1183, lz1800, Nat.reduceAdd, Nat.reduceLT, Nat.reduceEqDiff, Nat.not_lt_zero, Nat.lt_irrefl, ↓reduceIte, Nat.zero_add, Nat.add_zero, ne_eq, not_true_eq_false, not_false_eq_true, reduceCtorEq]
  · rw [if_neg (show ¬(p < n ∧ x p = c) from fun z => q1 z.1)]
    simp (disch := omega) only [S.f, hp, t1, q1, cond_true, cond_false, bI_ok, bI_er, bV_ok, bV_er, bR_ok, bR_er, bD_ok, bD_er, bF_ok, bF_er, thr_ap, cl_nI, lt_nI, le_nI, eq_nI, m1_lt, nI_m1, m1_nI, nI_lt_m1, add_nI, sub_nI, addm_nI, z_addm, z_subm, mul_nI, fit1_0, fit1_1, fit2_n, HI_wI, HK_wI, HL_wI, HR_wI, ckK_wI, chI_wI, sI_wI, wI_wI, lz0, lz1, lz2, lz3, lz4, lz5, lz6, lz7, lz8, lz9, lz10, lz12, lz13, lz16, lz17, lz20, lz21, lz23, lz26, lz30, lz32, lz35, lz40, lz45, lz48, lz57, lz58, lz59, lz60, lz61, lz63, lz64, lz97, lz99, lz100, lz110, lz111, lz126, lz129, lz132, lz133, lz166, lz169, lz255, lz999, lz1183, lz1800, Nat.reduceAdd, Nat.reduceLT, Nat.reduceEqDiff, Nat.not_lt_zero, Nat.lt_irrefl, ↓reduceIte, Nat.zero_add, Nat.add_zero, ne_eq, not_true_eq_false, not_false_eq_true, reduceCtorEq]
end PG
