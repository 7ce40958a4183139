/-! THE REFERENCE: a change begins and ends -/
theorem RM.cong {g g' : Nat → Int32} {A D : AF} (R : RM g A D) (h : ∀ k, k < 169 → g' k = g k) : RM g' A D := by
  have m30 := R.m30
  have es : ∀ j, j < tot A → ms g' j = ms g j := fun j hj => congrArg (fun x : Int32 => x.toNatClampNeg - 97) (h (13 + 4 * j) (by omega))
  have ek : ∀ j, j < tot A → mk g' j = mk g j := fun j hj => congrArg Int32.toNatClampNeg (h (13 + 4 * j + 1) (by omega))
  refine ⟨(h 1 (by decide)).trans R.1, m30, fun j hj => ?_, fun j j' h1 h2 => ?_, fun s k hs hk h0 => ?_⟩
  · rw [es j hj, ek j hj, h _ (by omega), h _ (by omega), h _ (by omega), h _ (by omega)]
    exact R.2.2.1 j hj
  · rw [es j (by omega), ek j (by omega), es j' h2, ek j' h2]
    exact R.lt h1 h2
  · obtain ⟨j, h1, h2, h3⟩ := R.ex hs hk h0
    exact ⟨j, h1, (es j h1).trans h2, (ek j h1).trans h3⟩
theorem RN.cong {g g' : Nat → Int32} {b : Bk} (R : RN g b) (h : ∀ k, k < 169 → g' k = g k) : RN g' b := by
  have n12 := R.2.1.1
  refine ⟨R.1.cong h, ⟨n12, (h 2 (by decide)).trans R.2.1.2.1, fun i hi => ?_⟩, fun s hs => ?_, fun i hi => ?_, (h 0 (by decide)).trans R.2.2.2.2⟩
  · rw [h _ (by omega), h _ (by omega), h _ (by omega)]
    exact R.2.1.2.2 i hi
  · rw [h _ (by omega)]
    exact R.2.2.1 s hs
  · rw [h _ (by omega)]
    exact R.2.2.2.1 i hi
/-- the reference's history: m books, the newest one first -/
def RG (f : Nat → Nat → Int32) (m : Nat) (H : HF) : Prop := m ≤ 8 ∧ f 241 5 = nI m ∧ ∀ i, i < m → RN (fun k => f 245 (169 * (m - 1 - i) + k)) (H i)
def shF (f : Nat → Nat → Int32) (n : Nat) : Nat → Nat → Int32 := fun b x => if b = 245 ∧ x < n then f 245 (x + 169) else f b x
theorem shF_step (f : Nat → Nat → Int32) (n : Nat) : u2 (shF f n) 245 n (shF f n 245 (n + 169)) = shF f (n + 1) := by
  funext b x
  have e1 : shF f n 245 (n + 169) = f 245 (n + 169) := if_neg (by omega)
  rw [e1]
  unfold u2 shF
  by_cases q : b = 245 ∧ x = n
  · obtain ⟨rfl, rfl⟩ := q
    rw [if_pos ⟨rfl, rfl⟩, if_pos ⟨rfl, by omega⟩]
  · rw [if_neg q]
    by_cases q2 : b = 245 ∧ x < n
    · rw [if_pos q2, if_pos ⟨q2.1, by omega⟩]
    · rw [if_neg q2, if_neg (by omega)]
section BE
variable {h : Hp}
theorem begins_ok (S : MdS h) : CL 205 [.ref 241] h = some (.ok .null, wI h (bcF (HI h) 242 0 243 0 169)) := by
  have hc := copies_ok (h := h) (src := 242) (dst := 243) (a := 0) (c := 0) S.2.2.1 S.2.2.2.1 (by decide) (by decide) (by decide) (by decide) (by decide)
  rw [e205]
  simp (disch := omega) only [S.f, hc, cond_true, cond_false, bI_ok, bI_er, bV_ok, bV_er, bR_ok, bR_er, bD_ok, bD_er, bF_ok, bF_er, thr_ap, cl_nI, lt_nI, le_nI, eq_nI, m1_lt, nI_m1, m1_nI, nI_lt_m1, add_nI, sub_nI, addm_nI, z_addm, z_subm, mul_nI, fit1_0, fit1_1, fit2_n, HI_wI, HK_wI, HL_wI, HR_wI, ckK_wI, chI_wI, sI_wI, wI_wI, lz0, lz1, lz2, lz3, lz4, lz5, lz6, lz7, lz8, lz9, lz10, lz12, lz13, lz16, lz17, lz20, lz21, lz23, lz26, lz30, lz32, lz35, lz40, lz45, lz48, lz57, lz58, lz59, lz60, lz61, lz63, lz64, lz97, lz99, lz100, lz110, lz111, lz126, lz129, lz132, lz133, lz166, lz169, lz255, lz999, lz1183, lz1800, Nat.reduceAdd, Nat.reduceLT, Nat.reduceEqDiff, Nat.not_lt_zero, Nat.lt_irrefl, ↓reduceIte, Nat.zero_add, Nat.add_zero, ne_eq, not_true_eq_false, not_false_eq_true, reduceCtorEq]
theorem remembers_ok (S : MdS h) {b : Bk} (Rb : RN (HI h 243) b) {m : Nat} {H : HF} (R : RG (HI h) m H) : ∃ f', CL 212 [.ref 241] h = some (.ok .null, wI h f') ∧ RG f' (if m < 8 then m + 1 else 8) (puH b H) ∧ ∀ a x, a ≠ 245 → ¬(a = 241 ∧ x = 5) → f' a x = HI h a x := by
  obtain ⟨m8, hm, hk⟩ := R
  rw [e212]
  by_cases q : m < 8
  · have hc := copies_ok (h := h) (src := 243) (dst := 245) (a := 0) (c := m * 169) S.2.2.2.1 S.2.2.2.2.2.1 (by decide) (by decide) (by omega) (by decide) (by decide)
    refine ⟨u2 (bcF (HI h) 243 0 245 (m * 169) 169) 241 5 (nI (m + 1)), ?_, ⟨by split <;> omega, ?_, fun i hi => ?_⟩, fun a x h1 h2 => ?_⟩
    · have e5 : bcF (HI h) 243 0 245 (m * 169) 169 241 5 = nI m := (bcF_o (by decide) 5).trans hm
      simp (disch := omega) only [S.f, hm, show ¬(m = 8) by omega, hc, e5, cond_true, cond_false, bI_ok, bI_er, bV_ok, bV_er, bR_ok, bR_er, bD_ok, bD_er, bF_ok, bF_er, thr_ap, cl_nI, lt_nI, le_nI, eq_nI, m1_lt, nI_m1, m1_nI, nI_lt_m1, add_nI, sub_nI, addm_nI, z_addm, z_subm, mul_nI, fit1_0, fit1_1, fit2_n, HI_wI, HK_wI, HL_wI, HR_wI, ckK_wI, chI_wI, sI_wI, wI_wI, lz0, lz1, lz2, lz3, lz4, lz5, lz6, lz7, lz8, lz9, lz10, lz12, lz13, lz16, lz17, lz20, lz21, lz23, lz26, lz30, lz32, lz35, lz40, lz45, lz48, lz57, lz58, lz59, lz60, lz61, lz63, lz64, lz97, lz99, lz100, lz110, lz111, lz126, lz129, lz132, lz133, lz166, lz169, lz255, lz999, lz1183, lz1800, Nat.reduceAdd, Nat.reduceLT, Nat.reduceEqDiff, Nat.not_lt_zero, Nat.lt_irrefl, ↓reduceIte, Nat.zero_add, Nat.add_zero, ne_eq, not_true_eq_false, not_false_eq_true, reduceCtorEq]
    · rw [w2_eq, if_pos q]
    · rw [if_pos q] at hi ⊢
      cases i with
      | zero =>
        refine Rb.cong (fun k hk => ?_)
        rw [w2_ne (by omega), show 169 * (m + 1 - 1 - 0) + k = m * 169 + k by omega, bcF_t hk, Nat.zero_add]
      | succ i =>
        refine (hk i (by omega)).cong (fun k hk => ?_)
        rw [w2_ne (by omega), show m + 1 - 1 - (i + 1) = m - 1 - i by omega, bcF_x (by omega)]
    · rw [w2_ne h2, bcF_o h1]
  · have m8' : m = 8 := by omega
    subst m8'
    have hsh : RF 212 11 [.ref 241, .int (nI 0)] [] h = RF 212 11 [.ref 241, .int (nI 1183)] [] (wI h (shF (HI h) 1183)) := by
      have e0 : shF (HI h) 0 = HI h := by
        funext b x
        exact if_neg (by omega)
      refine (congrArg (fun q => RF 212 11 [.ref 241, .int (nI 0)] [] (wI h q)) e0.symm).trans ?_
      refine lpUp (F := fun n => RF 212 11 [.ref 241, .int (nI n)] [] (wI h (shF (HI h) n))) (Nat.zero_le 1183) (fun n _ hn => ?_)
      have c1 := chI_nI S.2.2.2.2.2.1.1 S.2.2.2.2.2.1.2 (show n < 1352 by omega) (by decide)
      have c2 := chI_nI S.2.2.2.2.2.1.1 S.2.2.2.2.2.1.2 (show n + 169 < 1352 by omega) (by decide)
      rw [e212_11]
      simp (disch := omega) only [S.f, hn, c1, c2, shF_step, cond_true, cond_false, bI_ok, bI_er, bV_ok, bV_er, bR_ok, bR_er, bD_ok, bD_er, bF_ok, bF_er, thr_ap, cl_nI, lt_nI, le_nI, eq_nI, m1_lt, nI_m1, m1_nI, nI_lt_m1, add_nI, sub_nI, addm_nI, z_addm, z_subm, mul_nI, fit1_0, fit1_1, fit2_n, HI_wI, HK_wI, HL_wI, HR_wI, ckK_wI, chI_wI, sI_wI, wI_wI, lz0, lz1, lz2, lz3, lz4, lz5, lz6, lz7, lz8, lz9, lz10, lz12, lz13, lz16, lz17, lz20, lz21, lz23, lz26, lz30, lz32, lz35, lz40, lz45, lz48, lz57, lz58, lz59, lz60, lz61, lz63, lz64, lz97, lz99, lz100, lz110, lz111, lz126, lz129, lz132, lz133, lz166, lz169, lz255, lz999, lz1183, lz1800, Nat.reduceAdd, Nat.reduceLT, Nat.reduceEqDiff, Nat.not_lt_zero, Nat.lt_irrefl, ↓reduceIte, Nat.zero_add, Nat.add_zero, ne_eq, not_true_eq_false, not_false_eq_true, reduceCtorEq]
    have e5 : shF (HI h) 1183 241 5 = nI 8 := (if_neg (by decide)).trans hm
    have hc := copies_ok (h := wI h (u2 (shF (HI h) 1183) 241 5 (nI 7))) (src := 243) (dst := 245) (a := 0) (c := 1183) S.2.2.2.1 S.2.2.2.2.2.1 (by decide) (by decide) (by decide) (by decide) (by decide)
    rw [wI_wI, HI_wI] at hc
    refine ⟨u2 (bcF (u2 (shF (HI h) 1183) 241 5 (nI 7)) 243 0 245 1183 169) 241 5 (nI 8), ?_, ⟨by split <;> omega, ?_, fun i hi => ?_⟩, fun a x h1 h2 => ?_⟩
    · have e7 : bcF (u2 (shF (HI h) 1183) 241 5 (nI 7)) 243 0 245 1183 169 241 5 = nI 7 := (bcF_o (by decide) 5).trans (w2_eq _ _ _ _)
      have hst : RF 212 11 [.ref 241, .int (nI 1183)] [] (wI h (shF (HI h) 1183)) = some (.ok .null, wI h (u2 (bcF (u2 (shF (HI h) 1183) 241 5 (nI 7)) 243 0 245 1183 169) 241 5 (nI 8))) := by
        rw [e212_11]
        simp (disch := omega) only [S.f, e5, w2_eq, Nat.reduceSub, Nat.reduceMul, hc, e7, cond_true, cond_false, bI_ok, bI_er, bV_ok, bV_er, bR_ok, bR_er, bD_ok, bD_er, bF_ok, bF_er, thr_ap, cl_nI, lt_nI, le_nI, eq_nI, m1_lt, nI_m1, m1_nI, nI_lt_m1, add_nI, sub_nI, addm_nI, z_addm, z_subm, mul_nI, fit1_0, fit1_1, fit2_n, HI_wI, HK_wI, HL_wI, HR_wI, ckK_wI, chI_wI, sI_wI, wI_wI, lz0, lz1, lz2, lz3, lz4, lz5, lz6, lz7, lz8, lz9, lz10, lz12, lz13, lz16, lz17, lz20, lz21, lz23, lz26, lz30, lz32, lz35, lz40, lz45, lz48, lz57, lz58, lz59, lz60, lz61, lz63, lz64, lz97, lz99, lz100, lz110, lz111, lz126, lz129, lz132, lz133, lz166, lz169, lz255, lz999, lz1183, lz1800, Nat.reduceAdd, Nat.reduceLT, Nat.reduceEqDiff, Nat.not_lt_zero, Nat.lt_irrefl, ↓reduceIte, Nat.zero_add, Nat.add_zero, ne_eq, not_true_eq_false, not_false_eq_true, reduceCtorEq]
      simp (disch := omega) only [S.f, hm, cond_true, cond_false, bI_ok, bI_er, bV_ok, bV_er, bR_ok, bR_er, bD_ok, bD_er, bF_ok, bF_er, thr_ap, cl_nI, lt_nI, le_nI, eq_nI, m1_lt, nI_m1, m1_nI, nI_lt_m1, add_nI, sub_nI, addm_nI, z_addm, z_subm, mul_nI, fit1_0, fit1_1, fit2_n, HI_wI, HK_wI, HL_wI, HR_wI, ckK_wI, chI_wI, sI_wI, wI_wI, lz0, lz1, lz2, lz3, lz4, lz5, lz6, lz7, lz8, lz9, lz10, lz12, lz13, lz16, lz17, lz20, lz21, lz23, lz26, lz30, lz32, lz35, lz40, lz45, lz48, lz57, lz58, lz59, lz60, lz61, lz63, lz64, lz97, lz99, lz100, lz110, lz111, lz126, lz129, lz132, lz133, lz166, lz169, lz255, lz999, lz1183, lz1800, Nat.reduceAdd, Nat.reduceLT, Nat.reduceEqDiff, Nat.not_lt_zero, Nat.lt_irrefl, ↓reduceIte, Nat.zero_add, Nat.add_zero, ne_eq, not_true_eq_false, not_false_eq_true, reduceCtorEq]
      exact hsh.trans hst
    · rw [w2_eq, if_neg q]
    · rw [if_neg q] at hi ⊢
      cases i with
      | zero =>
        refine Rb.cong (fun k hk => ?_)
        rw [w2_ne (by omega), show 169 * (8 - 1 - 0) + k = 1183 + k by omega, bcF_t hk, w2_ne (by omega), Nat.zero_add]
        exact if_neg (by omega)
      | succ i =>
        refine (hk i (by omega)).cong (fun k hk => ?_)
        rw [w2_ne (by omega), bcF_x (by omega), w2_ne (by omega)]
        show (if _ then _ else _) = _
        rw [if_pos ⟨rfl, by omega⟩]
        congr 1
        omega
    · rw [w2_ne h2, bcF_o h1, w2_ne h2]
      exact if_neg (fun q => h1 q.1)
end BE
