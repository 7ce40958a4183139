/-! THE REFERENCE: changes, first part -/
/-- only the row of numbers and the place of what was thrown change -/
def FM (f f' : Nat → Nat → Int32) : Prop := ∀ a x, a ≠ 242 → ¬(a = 241 ∧ x = 16) → f' a x = f a x
theorem RN.m {g : Nat → Int32} {b : Bk} (R : RN g b) : RM g (kA b) (kD b) := R.1
theorem RN.q {g : Nat → Int32} {b : Bk} (R : RN g b) : RQ g (kN b) (kQ b) := R.2.1
theorem RM.thr {f : Nat → Nat → Int32} {A D : AF} {v : Int32} (R : RM (f 242) A D) : RM (u2 f 241 16 v 242) A D := by
  have : u2 f 241 16 v 242 = f 242 := by
    funext k
    exact w2_ne (by omega)
  rw [this]
  exact R
theorem RQ.cong {g g' : Nat → Int32} {n : Nat} {Q : QF} (R : RQ g n Q) (h : ∀ k, k < 169 → 133 ≤ k ∨ k = 2 → g' k = g k) : RQ g' n Q := by
  have n12 := R.1
  refine ⟨R.1, (h 2 (by decide) (.inr rfl)).trans R.2.1, fun i hi => ?_⟩
  rw [h _ (by omega) (by omega), h _ (by omega) (by omega), h _ (by omega) (by omega)]
  exact R.2.2 i hi
theorem RM.congr {g g' : Nat → Int32} {A D : AF} (R : RM g A D) (h : ∀ k, (k = 1 ∨ (13 ≤ k ∧ k < 133)) → g' k = g k) : RM g' A D := by
  have m30 := R.m30
  have es : ∀ j, j < tot A → ms g' j = ms g j := fun j hj => congrArg (fun x : Int32 => x.toNatClampNeg - 97) (h (13 + 4 * j) (by omega))
  have ek : ∀ j, j < tot A → mk g' j = mk g j := fun j hj => congrArg Int32.toNatClampNeg (h (13 + 4 * j + 1) (by omega))
  refine ⟨(h 1 (by omega)).trans R.1, m30, fun j hj => ?_, fun j j' h1 h2 => ?_, fun s k hs hk h0 => ?_⟩
  · rw [es j hj, ek j hj, h _ (by omega), h _ (by omega), h _ (by omega), h _ (by omega)]
    exact R.2.2.1 j hj
  · rw [es j (by omega), ek j (by omega), es j' h2, ek j' h2]
    exact R.lt h1 h2
  · obtain ⟨j, h1, h2, h3⟩ := R.ex hs hk h0
    exact ⟨j, h1, (es j h1).trans h2, (ek j h1).trans h3⟩
section MC
variable {h : Hp} {b : Bk}
theorem waits_t (S : MdS h) (R : RN (HI h 242) b) {i : Nat} (h1 : 1 ≤ i) (h2 : i ≤ 99) : ∃ f', CL 242 [.ref 241, .int (nI i)] h = some (.ok (.int (nI (kY b + i))), wI h f') ∧ RN (f' 242) (wtB b i) ∧ f' 241 16 = nI 0 ∧ FM (HI h) f' := by
  have hi := isIn_ok (h := h) (nI i) (lo := 1) (hi := 99) (by decide) (by decide)
  rw [inr_nI h1 h2 (by decide)] at hi
  have hg := goes_ok S true
  rw [b2t] at hi hg
  have ht : thN true true true = 0 := rfl
  rw [ht] at hg
  refine ⟨u2 (u2 (HI h) 241 16 (nI 0)) 242 0 (nI (kY b + i)), ?_, ⟨R.1.congr (fun k hk => ?_), R.q.cong (fun k hk hk2 => ?_), fun s hs => ?_, fun j hj => ?_, w2_eq _ _ _ _⟩, ?_, fun a x q1 q2 => ?_⟩
  · rw [e242]
    simp (disch := omega) only [S.f, S.cw (show 0 < 169 by decide), hi, hg, w2_ne, w2_eq, R.2.2.2.2, Nat.succ_ne_self, cond_true, cond_false, bI_ok, bI_er, bV_ok, bV_er, bR_ok, bR_er, bD_ok, bD_er, bF_ok, bF_er, thr_ap, cl_nI, lt_nI, le_nI, eq_nI, m1_lt, nI_m1, m1_nI, nI_lt_m1, add_nI, sub_nI, addm_nI, z_addm, z_subm, mul_nI, fit1_0, fit1_1, fit2_n, HI_wI, HK_wI, HL_wI, HR_wI, ckK_wI, chI_wI, sI_wI, wI_wI, lz0, lz1, lz2, lz3, lz4, lz5, lz6, lz7, lz8, lz9, lz10, lz12, lz13, lz16, lz17, lz20, lz21, lz23, lz26, lz30, lz32, lz35, lz40, lz45, lz48, lz57, lz58, lz59, lz60, lz61, lz63, lz64, lz97, lz99, lz100, lz110, lz111, lz126, lz129, lz132, lz133, lz166, lz169, lz255, lz999, lz1183, lz1800, Nat.reduceAdd, Nat.reduceLT, Nat.reduceEqDiff, Nat.not_lt_zero, Nat.lt_irrefl, ↓reduceIte, Nat.zero_add, Nat.add_zero, ne_eq, not_true_eq_false, not_false_eq_true, reduceCtorEq]
  · rw [w2_ne (by omega), w2_ne (by omega)]
  · rw [w2_ne (by omega), w2_ne (by omega)]
  · rw [w2_ne (by omega), w2_ne (by omega)]
    exact R.2.2.1 s hs
  · rw [w2_ne (by omega), w2_ne (by omega)]
    exact R.2.2.2.1 j hj
  · rw [w2_ne (by omega), w2_eq]
  · rw [w2_ne (by omega), w2_ne q2]
theorem waits_f (S : MdS h) (R : RN (HI h 242) b) {x : Int32} (hx : inr 1 99 x = false) : ∃ v f', CL 242 [.ref 241, .int x] h = some (.ok (.int v), wI h f') ∧ f' 241 16 = nI 1 ∧ FM (HI h) f' := by
  have hi := isIn_ok (h := h) x (lo := 1) (hi := 99) (by decide) (by decide)
  rw [hx] at hi
  have hg := goes_ok S false
  rw [b2f] at hi hg
  have ht : thN false true true = 1 := rfl
  rw [ht] at hg
  refine ⟨nI (kY b), u2 (HI h) 241 16 (nI 1), ?_, w2_eq _ _ _ _, fun a x q1 q2 => w2_ne q2⟩
  rw [e242]
  simp (disch := omega) only [S.f, S.cw (show 0 < 169 by decide), hi, hg, w2_ne, R.2.2.2.2, cond_true, cond_false, bI_ok, bI_er, bV_ok, bV_er, bR_ok, bR_er, bD_ok, bD_er, bF_ok, bF_er, thr_ap, cl_nI, lt_nI, le_nI, eq_nI, m1_lt, nI_m1, m1_nI, nI_lt_m1, add_nI, sub_nI, addm_nI, z_addm, z_subm, mul_nI, fit1_0, fit1_1, fit2_n, HI_wI, HK_wI, HL_wI, HR_wI, ckK_wI, chI_wI, sI_wI, wI_wI, lz0, lz1, lz2, lz3, lz4, lz5, lz6, lz7, lz8, lz9, lz10, lz12, lz13, lz16, lz17, lz20, lz21, lz23, lz26, lz30, lz32, lz35, lz40, lz45, lz48, lz57, lz58, lz59, lz60, lz61, lz63, lz64, lz97, lz99, lz100, lz110, lz111, lz126, lz129, lz132, lz133, lz166, lz169, lz255, lz999, lz1183, lz1800, Nat.reduceAdd, Nat.reduceLT, Nat.reduceEqDiff, Nat.not_lt_zero, Nat.lt_irrefl, ↓reduceIte, Nat.zero_add, Nat.add_zero, ne_eq, not_true_eq_false, not_false_eq_true, reduceCtorEq]
theorem rejects_ok (S : MdS h) (R : RN (HI h 242) b) : ∃ f', CL 230 [.ref 241] h = some (.ok (.int (nI (kN b))), wI h f') ∧ RN (f' 242) (rjB b) ∧ f' 241 16 = nI 0 ∧ FM (HI h) f' := by
  have h8 : HI h 242 8 = nI (kU b 5) := R.2.2.2.1 5 (by decide)
  refine ⟨u2 (u2 (u2 (u2 (HI h) 241 16 (nI 0)) 242 2 (nI 0)) 242 8 (nI (kU b 5 + 1))) 242 0 (nI (kY b + 1)), ?_, ⟨R.1.congr (fun k hk => ?_), ⟨Nat.zero_le 12, ?_, fun i hi => absurd hi (Nat.not_lt_zero i)⟩, fun s hs => ?_, fun j hj => ?_, w2_eq _ _ _ _⟩, ?_, fun a x q1 q2 => ?_⟩
  · rw [e230]
    simp (disch := omega) only [S.f, S.cw (show 0 < 169 by decide), S.cw (show 2 < 169 by decide), S.cw (show 8 < 169 by decide), w2_ne, w2_eq, R.2.2.2.2, R.q.2.1, h8, cond_true, cond_false, bI_ok, bI_er, bV_ok, bV_er, bR_ok, bR_er, bD_ok, bD_er, bF_ok, bF_er, thr_ap, cl_nI, lt_nI, le_nI, eq_nI, m1_lt, nI_m1, m1_nI, nI_lt_m1, add_nI, sub_nI, addm_nI, z_addm, z_subm, mul_nI, fit1_0, fit1_1, fit2_n, HI_wI, HK_wI, HL_wI, HR_wI, ckK_wI, chI_wI, sI_wI, wI_wI, lz0, lz1, lz2, lz3, lz4, lz5, lz6, lz7, lz8, lz9, lz10, lz12, lz13, lz16, lz17, lz20, lz21, lz23, lz26, lz30, lz32, lz35, lz40, lz45, lz48, lz57, lz58, lz59, lz60, lz61, lz63, lz64, lz97, lz99, lz100, lz110, lz111, lz126, lz129, lz132, lz133, lz166, lz169, lz255, lz999, lz1183, lz1800, Nat.reduceAdd, Nat.reduceLT, Nat.reduceEqDiff, Nat.not_lt_zero, Nat.lt_irrefl, ↓reduceIte, Nat.zero_add, Nat.add_zero, ne_eq, not_true_eq_false, not_false_eq_true, reduceCtorEq]
  · rw [w2_ne (by omega), w2_ne (by omega), w2_ne (by omega), w2_ne (by omega)]
  · rw [w2_ne (by omega), w2_ne (by omega), w2_eq]
    rfl
  · rw [w2_ne (by omega), w2_ne (by omega), w2_ne (by omega), w2_ne (by omega)]
    exact R.2.2.1 s hs
  · rw [w2_ne (by omega)]
    show _ = nI (if j = 5 then kU b 5 + 1 else kU b j)
    by_cases q : j = 5
    · subst q
      rw [if_pos rfl, w2_eq]
    · rw [if_neg q, w2_ne (by omega), w2_ne (by omega), w2_ne (by omega)]
      exact R.2.2.2.1 j hj
  · rw [w2_ne (by omega), w2_ne (by omega), w2_ne (by omega), w2_eq]
  · rw [w2_ne (by omega), w2_ne (by omega), w2_ne (by omega), w2_ne q2]
end MC
