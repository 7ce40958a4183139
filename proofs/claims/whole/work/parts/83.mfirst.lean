/-! THE REFERENCE: first records of keys, sums -/
def fsN (g : Nat → Int32) (j : Nat) : Nat → Bool
  | 0 => true
  | i + 1 => fsN g j i && decide (mk g i ≠ mk g j)
theorem fsN_iff {g : Nat → Int32} {j : Nat} : ∀ {i : Nat}, fsN g j i = true ↔ ∀ i', i' < i → mk g i' ≠ mk g j
  | 0 => ⟨fun _ _ h => by omega, fun _ => rfl⟩
  | i + 1 => by
    unfold fsN
    rw [Bool.and_eq_true, fsN_iff, decide_eq_true_iff]
    constructor
    · rintro ⟨h1, h2⟩ i' hi'
      by_cases q : i' = i
      · subst q
        exact h2
      · exact h1 i' (by omega)
    · exact fun h1 => ⟨fun i' hi' => h1 i' (by omega), h1 i (by omega)⟩
def lsA (A : AF) (s k : Nat) : Bool := decide ((s = 0 ∨ A 0 k = 0) ∧ (s ≤ 1 ∨ A 1 k = 0))
theorem fs_ls {g : Nat → Int32} {A D : AF} (R : RM g A D) {j : Nat} (hj : j < tot A) : fsN g j j = lsA A (ms g j) (mk g j) := by
  have hb := R.b hj
  have key : ∀ s, s < ms g j → A s (mk g j) ≠ 0 → ∃ i, i < j ∧ mk g i = mk g j := fun s hs h0 => by
    obtain ⟨i, h1, h2, h3⟩ := R.ex (s := s) (k := mk g j) (by omega) (by omega) (by omega)
    refine ⟨i, ?_, h3⟩
    rcases Nat.lt_trichotomy i j with hl | he | hl
    · exact hl
    · subst he
      omega
    · have := R.lt hl h1
      rw [h2, h3] at this
      omega
  rw [Bool.eq_iff_iff, fsN_iff]
  unfold lsA
  rw [decide_eq_true_iff]
  constructor
  · intro h
    constructor
    · by_cases q : ms g j = 0
      · exact .inl q
      · by_cases q2 : A 0 (mk g j) = 0
        · exact .inr q2
        · obtain ⟨i, h1, h2⟩ := key 0 (by omega) q2
          exact absurd h2 (h i h1)
    · by_cases q : ms g j ≤ 1
      · exact .inl q
      · by_cases q2 : A 1 (mk g j) = 0
        · exact .inr q2
        · obtain ⟨i, h1, h2⟩ := key 1 (by omega) q2
          exact absurd h2 (h i h1)
  · rintro ⟨h1, h2⟩ i hi he
    have hl := R.lt hi hj
    have hbi := R.b (j := i) (by omega)
    rw [he] at hl hbi
    have : ms g i = 0 ∨ ms g i = 1 := by omega
    rcases this with q | q
    · rw [q] at hbi
      rcases h1 with h1 | h1 <;> omega
    · rw [q] at hbi
      rcases h2 with h2 | h2 <;> omega
theorem RM.firsts {g : Nat → Int32} {A D : AF} (R : RM g A D) (W : Nat → Nat) : sumN (fun j => if fsN g j j then W (mk g j) else 0) (tot A) = sumN (fun k => if 0 < hoA A k then W k else 0) 1000 := by
  rw [R.sum (F := fun s k => if 0 < A s k ∧ lsA A s k = true then W k else 0) (fun j hj => by
    have hb := R.b hj
    rw [fs_ls R hj]
    simp only [hb.2.2.1, true_and]) (fun s k _ _ q => by
    rw [q]
    simp), ← sumN_add, ← sumN_add]
  refine sumN_eq (fun k _ => ?_)
  have e : (0 < hoA A k) = (0 < A 0 k ∨ 0 < A 1 k ∨ 0 < A 2 k) := propext hol3_pos
  simp only [e, Nat.pos_iff_ne_zero]
  unfold lsA
  by_cases h0 : A 0 k = 0 <;> by_cases h1 : A 1 k = 0 <;> by_cases h2 : A 2 k = 0 <;> simp [h0, h1, h2]
section MQ
variable {h : Hp} {A D : AF}
theorem isFirst_ok (S : MdS h) (R : RM (HI h 242) A D) {j : Nat} (hj : j < tot A) : CL 270 [.ref 241, .int (nI j)] h = some (.ok (.int (nI (b2n (fsN (HI h 242) j j)))), h) := by
  have m30 := R.m30
  have hb := R.b hj
  have hk := of_k S R hj
  rw [e270]
  refine (lpUp (F := fun i => RF 270 4 [.ref 241, .int (nI j), .int (nI (b2n (fsN (HI h 242) j i))), .int (nI i)] [] h) (Nat.zero_le j) (fun i _ hi => ?_)).trans ?_
  · have hki := of_k S R (j := i) (by omega)
    have hbi := R.b (j := i) (by omega)
    have e : fsN (HI h 242) j (i + 1) = (fsN (HI h 242) j i && decide (mk (HI h 242) i ≠ mk (HI h 242) j)) := rfl
    rw [e270_4, e]
    cases q1 : fsN (HI h 242) j i with
    | false => simp (disch := omega) only [hi, b2f, Bool.false_and, cond_true, cond_false, bI_ok, bI_er, bV_ok, bV_er, bR_ok, bR_er, bD_ok, bD_er, bF_ok, bF_er, thr_ap, cl_nI, lt_nI, le_nI, eq_nI, m1_lt, nI_m1, m1_nI, nI_lt_m1, add_nI, sub_nI, addm_nI, z_addm, z_subm, mul_nI, fit1_0, fit1_1, fit2_n, HI_wI, HK_wI, HL_wI, HR_wI, ckK_wI, chI_wI, sI_wI, wI_wI, lz0, lz1, lz2, lz3, lz4, lz5, lz6, lz7, lz8, lz9, lz10, lz12, lz13, lz16, lz17, lz20, lz21, lz23, lz26, lz30, lz32, lz35, lz40, lz45, lz48, lz57, lz58, lz59, lz60, lz61, lz63, lz64, lz97, lz99, lz100, lz110, lz111, lz126, lz129, lz132, lz133, lz166, lz169, lz255, lz999, lz1183, lz1800, Nat.reduceAdd, Nat.reduceLT, Nat.reduceEqDiff, Nat.not_lt_zero, Nat.lt_irrefl, ↓reduceIte, Nat.zero_add, Nat.add_zero, ne_eq, not_true_eq_false, not_false_eq_true, reduceCtorEq]
    | true =>
      by_cases q2 : mk (HI h 242) i = mk (HI h 242) j
      · simp (disch := omega) only [S.f, hi, b2t, b2f, hk, hki, q2, Bool.true_and, decide_false, cond_true, cond_false, bI_ok, bI_er, bV_ok, bV_er, bR_ok, bR_er, bD_ok, bD_er, bF_ok, bF_er, thr_ap, cl_nI, lt_nI, le_nI, eq_nI, m1_lt, nI_m1, m1_nI, nI_lt_m1, add_nI, sub_nI, addm_nI, z_addm, z_subm, mul_nI, fit1_0, fit1_1, fit2_n, HI_wI, HK_wI, HL_wI, HR_wI, ckK_wI, chI_wI, sI_wI, wI_wI, lz0, lz1, lz2, lz3, lz4, lz5, lz6, lz7, lz8, lz9, lz10, lz12, lz13, lz16, lz17, lz20, lz21, lz23, lz26, lz30, lz32, lz35, lz40, lz45, lz48, lz57, lz58, lz59, lz60, lz61, lz63, lz64, lz97, lz99, lz100, lz110, lz111, lz126, lz129, lz132, lz133, lz166, lz169, lz255, lz999, lz1183, lz1800, Nat.reduceAdd, Nat.reduceLT, Nat.reduceEqDiff, Nat.not_lt_zero, Nat.lt_irrefl, ↓reduceIte, Nat.zero_add, Nat.add_zero, ne_eq, not_true_eq_false, not_false_eq_true, reduceCtorEq]
      · simp (disch := omega) only [S.f, hi, b2t, b2f, hk, hki, q2, Bool.true_and, decide_true, cond_true, cond_false, bI_ok, bI_er, bV_ok, bV_er, bR_ok, bR_er, bD_ok, bD_er, bF_ok, bF_er, thr_ap, cl_nI, lt_nI, le_nI, eq_nI, m1_lt, nI_m1, m1_nI, nI_lt_m1, add_nI, sub_nI, addm_nI, z_addm, z_subm, mul_nI, fit1_0, fit1_1, fit2_n, HI_wI, HK_wI, HL_wI, HR_wI, ckK_wI, chI_wI, sI_wI, wI_wI, lz0, lz1, lz2, lz3, lz4, lz5, lz6, lz7, lz8, lz9, lz10, lz12, lz13, lz16, lz17, lz20, lz21, lz23, lz26, lz30, lz32, lz35, lz40, lz45, lz48, lz57, lz58, lz59, lz60, lz61, lz63, lz64, lz97, lz99, lz100, lz110, lz111, lz126, lz129, lz132, lz133, lz166, lz169, lz255, lz999, lz1183, lz1800, Nat.reduceAdd, Nat.reduceLT, Nat.reduceEqDiff, Nat.not_lt_zero, Nat.lt_irrefl, ↓reduceIte, Nat.zero_add, Nat.add_zero, ne_eq, not_true_eq_false, not_false_eq_true, reduceCtorEq]
  · rw [e270_4]
    cases fsN (HI h 242) j j <;> simp (disch := omega) only [b2t, b2f, cond_true, cond_false, bI_ok, bI_er, bV_ok, bV_er, bR_ok, bR_er, bD_ok, bD_er, bF_ok, bF_er, thr_ap, cl_nI, lt_nI, le_nI, eq_nI, m1_lt, nI_m1, m1_nI, nI_lt_m1, add_nI, sub_nI, addm_nI, z_addm, z_subm, mul_nI, fit1_0, fit1_1, fit2_n, HI_wI, HK_wI, HL_wI, HR_wI, ckK_wI, chI_wI, sI_wI, wI_wI, lz0, lz1, lz2, lz3, lz4, lz5, lz6, lz7, lz8, lz9, lz10, lz12, lz13, lz16, lz17, lz20, lz21, lz23, lz26, lz30, lz32, lz35, lz40, lz45, lz48, lz57, lz58, lz59, lz60, lz61, lz63, lz64, lz97, lz99, lz100, lz110, lz111, lz126, lz129, lz132, lz133, lz166, lz169, lz255, lz999, lz1183, lz1800, Nat.reduceAdd, Nat.reduceLT, Nat.reduceEqDiff, Nat.not_lt_zero, Nat.lt_irrefl, ↓reduceIte, Nat.zero_add, Nat.add_zero, ne_eq, not_true_eq_false, not_false_eq_true, reduceCtorEq]
theorem acceptedTotalM_ok (S : MdS h) (R : RM (HI h 242) A D) : CL 278 [.ref 241] h = some (.ok (.int (nI (sumN (fun k => acA A k) 1000))), wI h (u2 (HI h) 241 16 (nI 0))) := by
  have m30 := R.m30
  have S' : MdS (wI h (u2 (HI h) 241 16 (nI 0))) := S
  have R' : RM (HI (wI h (u2 (HI h) 241 16 (nI 0))) 242) A D := by
    have : u2 (HI h) 241 16 (nI 0) 242 = HI h 242 := by
      funext k
      exact w2_ne (by omega)
    rw [HI_wI, this]
    exact R
  generalize hG : wI h (u2 (HI h) 241 16 (nI 0)) = G at *
  have hsum : sumN (fun k => acA A k) 1000 = sumN (fun j => if fsN (HI G 242) j j then acA A (mk (HI G 242) j) else 0) (tot A) := by
    rw [R'.firsts]
    refine sumN_eq (fun k _ => ?_)
    by_cases q : 0 < hoA A k
    · rw [if_pos q]
    · rw [if_neg q]
      have e : ¬(0 < A 0 k ∨ 0 < A 1 k ∨ 0 < A 2 k) := fun z => q (hol3_pos.mpr z)
      unfold acA
      rw [show A 0 k = 0 by omega, show A 1 k = 0 by omega, show A 2 k = 0 by omega]
      rfl
  have hst : CL 278 [.ref 241] h = RF 278 9 [.ref 241, .int (nI 0), .int (nI 0)] [] G := by
    rw [e278]
    simp (disch := omega) only [S.f, hG, cond_true, cond_false, bI_ok, bI_er, bV_ok, bV_er, bR_ok, bR_er, bD_ok, bD_er, bF_ok, bF_er, thr_ap, cl_nI, lt_nI, le_nI, eq_nI, m1_lt, nI_m1, m1_nI, nI_lt_m1, add_nI, sub_nI, addm_nI, z_addm, z_subm, mul_nI, fit1_0, fit1_1, fit2_n, HI_wI, HK_wI, HL_wI, HR_wI, ckK_wI, chI_wI, sI_wI, wI_wI, lz0, lz1, lz2, lz3, lz4, lz5, lz6, lz7, lz8, lz9, lz10, lz12, lz13, lz16, lz17, lz20, lz21, lz23, lz26, lz30, lz32, lz35, lz40, lz45, lz48, lz57, lz58, lz59, lz60, lz61, lz63, lz64, lz97, lz99, lz100, lz110, lz111, lz126, lz129, lz132, lz133, lz166, lz169, lz255, lz999, lz1183, lz1800, Nat.reduceAdd, Nat.reduceLT, Nat.reduceEqDiff, Nat.not_lt_zero, Nat.lt_irrefl, ↓reduceIte, Nat.zero_add, Nat.add_zero, ne_eq, not_true_eq_false, not_false_eq_true, reduceCtorEq]
  rw [hst, hsum]
  refine (lpUp (F := fun i => RF 278 9 [.ref 241, .int (nI (sumN (fun j => if fsN (HI G 242) j j then acA A (mk (HI G 242) j) else 0) i)), .int (nI i)] [] G) (Nat.zero_le (tot A)) (fun j _ hj => ?_)).trans ?_
  · have hb := R'.b hj
    have hf := isFirst_ok S' R' hj
    have hk := of_k S' R' hj
    have hh : 0 < hoA A (mk (HI G 242) j) := by
      have : ms (HI G 242) j = 0 ∨ ms (HI G 242) j = 1 ∨ ms (HI G 242) j = 2 := by omega
      refine hol3_pos.mpr ?_
      rcases this with q | q | q <;> rw [q] at hb
      · exact .inl hb.2.2.1
      · exact .inr (.inl hb.2.2.1)
      · exact .inr (.inr hb.2.2.1)
    have ha := accepted_ok S' R' hb.2.1 hh
    rw [e278_9]
    cases q : fsN (HI G 242) j j with
    | false => simp (disch := omega) only [S'.f, S'.cw (show 1 < 169 by decide), R'.m, hj, hf, q, b2f, sumN, Bool.false_eq_true, cond_true, cond_false, bI_ok, bI_er, bV_ok, bV_er, bR_ok, bR_er, bD_ok, bD_er, bF_ok, bF_er, thr_ap, cl_nI, lt_nI, le_nI, eq_nI, m1_lt, nI_m1, m1_nI, nI_lt_m1, add_nI, sub_nI, addm_nI, z_addm, z_subm, mul_nI, fit1_0, fit1_1, fit2_n, HI_wI, HK_wI, HL_wI, HR_wI, ckK_wI, chI_wI, sI_wI, wI_wI, lz0, lz1, lz2, lz3, lz4, lz5, lz6, lz7, lz8, lz9, lz10, lz12, lz13, lz16, lz17, lz20, lz21, lz23, lz26, lz30, lz32, lz35, lz40, lz45, lz48, lz57, lz58, lz59, lz60, lz61, lz63, lz64, lz97, lz99, lz100, lz110, lz111, lz126, lz129, lz132, lz133, lz166, lz169, lz255, lz999, lz1183, lz1800, Nat.reduceAdd, Nat.reduceLT, Nat.reduceEqDiff, Nat.not_lt_zero, Nat.lt_irrefl, ↓reduceIte, Nat.zero_add, Nat.add_zero, ne_eq, not_true_eq_false, not_false_eq_true, reduceCtorEq]
    | true => simp (disch := omega) only [S'.f, S'.cw (show 1 < 169 by decide), R'.m, hj, hf, hk, ha, q, b2t, sumN, cond_true, cond_false, bI_ok, bI_er, bV_ok, bV_er, bR_ok, bR_er, bD_ok, bD_er, bF_ok, bF_er, thr_ap, cl_nI, lt_nI, le_nI, eq_nI, m1_lt, nI_m1, m1_nI, nI_lt_m1, add_nI, sub_nI, addm_nI, z_addm, z_subm, mul_nI, fit1_0, fit1_1, fit2_n, HI_wI, HK_wI, HL_wI, HR_wI, ckK_wI, chI_wI, sI_wI, wI_wI, lz0, lz1, lz2, lz3, lz4, lz5, lz6, lz7, lz8, lz9, lz10, lz12, lz13, lz16, lz17, lz20, lz21, lz23, lz26, lz30, lz32, lz35, lz40, lz45, lz48, lz57, lz58, lz59, lz60, lz61, lz63, lz64, lz97, lz99, lz100, lz110, lz111, lz126, lz129, lz132, lz133, lz166, lz169, lz255, lz999, lz1183, lz1800, Nat.reduceAdd, Nat.reduceLT, Nat.reduceEqDiff, Nat.not_lt_zero, Nat.lt_irrefl, ↓reduceIte, Nat.zero_add, Nat.add_zero, ne_eq, not_true_eq_false, not_false_eq_true, reduceCtorEq]
  · rw [e278_9]
    simp (disch := omega) only [S'.f, S'.cw (show 1 < 169 by decide), R'.m, cond_true, cond_false, bI_ok, bI_er, bV_ok, bV_er, bR_ok, bR_er, bD_ok, bD_er, bF_ok, bF_er, thr_ap, cl_nI, lt_nI, le_nI, eq_nI, m1_lt, nI_m1, m1_nI, nI_lt_m1, add_nI, sub_nI, addm_nI, z_addm, z_subm, mul_nI, fit1_0, fit1_1, fit2_n, HI_wI, HK_wI, HL_wI, HR_wI, ckK_wI, chI_wI, sI_wI, wI_wI, lz0, lz1, lz2, lz3, lz4, lz5, lz6, lz7, lz8, lz9, lz10, lz12, lz13, lz16, lz17, lz20, lz21, lz23, lz26, lz30, lz32, lz35, lz40, lz45, lz48, lz57, lz58, lz59, lz60, lz61, lz63, lz64, lz97, lz99, lz100, lz110, lz111, lz126, lz129, lz132, lz133, lz166, lz169, lz255, lz999, lz1183, lz1800, Nat.reduceAdd, Nat.reduceLT, Nat.reduceEqDiff, Nat.not_lt_zero, Nat.lt_irrefl, ↓reduceIte, Nat.zero_add, Nat.add_zero, ne_eq, not_true_eq_false, not_false_eq_true, reduceCtorEq]
end MQ
