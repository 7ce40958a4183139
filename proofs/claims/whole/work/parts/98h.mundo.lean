/-! THE REFERENCE: undo, save, restore; what went wrong -/
def RS (f : Nat → Nat → Int32) (sv : Option Bk) : Prop := match sv with
  | none => f 241 4 = nI 0
  | some b => f 241 4 = nI 1 ∧ RN (f 244) b
theorem tH_1 (h : Hp) (t k : Nat) (hk : k ≠ 16) : HI (tH h t) 241 k = HI h 241 k := w2_ne (by omega)
section MQ
variable {h : Hp} {b : Bk}
theorem undoableM_ok (S : MdS h) {m : Nat} {H : HF} (G : RG (HI h) m H) : CL 337 [.ref 241] h = some (.ok (.int (nI m)), tH h 0) := by
  have h5 := G.2.1
  rw [e337]
  simp (disch := omega) only [S.f, w2_ne, h5, tH, Nat.succ_ne_self, cond_true, cond_false, bI_ok, bI_er, bV_ok, bV_er, bR_ok, bR_er, bD_ok, bD_er, bF_ok, bF_er, thr_ap, cl_nI, lt_nI, le_nI, eq_nI, m1_lt, nI_m1, m1_nI, nI_lt_m1, add_nI, sub_nI, addm_nI, z_addm, z_subm, mul_nI, fit1_0, fit1_1, fit2_n, HI_wI, HK_wI, HL_wI, HR_wI, ckK_wI, chI_wI, sI_wI, wI_wI, lz0, lz1, lz2, lz3, lz4, lz5, lz6, lz7, lz8, lz9, lz10, lz12, lz13, lz16, lz17, lz20, lz21, lz23, lz26, lz30, lz32, lz35, lz40, lz45, lz48, lz57, lz58, lz59, lz60, lz61, lz63, lz64, lz97, lz99, lz100, lz110, lz111, lz126, lz129, lz132, lz133, lz166, lz169, lz255, lz999, lz1183, lz1800, Nat.reduceAdd, Nat.reduceLT, Nat.reduceEqDiff, Nat.not_lt_zero, Nat.lt_irrefl, ↓reduceIte, Nat.zero_add, Nat.add_zero, ne_eq, not_true_eq_false, not_false_eq_true, reduceCtorEq]
theorem undoM_f (S : MdS h) {H : HF} (G : RG (HI h) 0 H) : CL 339 [.ref 241] h = some (.ok (.int (nI 0)), tH h 1) := by
  have h5 := G.2.1
  rw [e339]
  simp (disch := omega) only [S.f, h5, goes_f S, cond_true, cond_false, bI_ok, bI_er, bV_ok, bV_er, bR_ok, bR_er, bD_ok, bD_er, bF_ok, bF_er, thr_ap, cl_nI, lt_nI, le_nI, eq_nI, m1_lt, nI_m1, m1_nI, nI_lt_m1, add_nI, sub_nI, addm_nI, z_addm, z_subm, mul_nI, fit1_0, fit1_1, fit2_n, HI_wI, HK_wI, HL_wI, HR_wI, ckK_wI, chI_wI, sI_wI, wI_wI, lz0, lz1, lz2, lz3, lz4, lz5, lz6, lz7, lz8, lz9, lz10, lz12, lz13, lz16, lz17, lz20, lz21, lz23, lz26, lz30, lz32, lz35, lz40, lz45, lz48, lz57, lz58, lz59, lz60, lz61, lz63, lz64, lz97, lz99, lz100, lz110, lz111, lz126, lz129, lz132, lz133, lz166, lz169, lz255, lz999, lz1183, lz1800, Nat.reduceAdd, Nat.reduceLT, Nat.reduceEqDiff, Nat.not_lt_zero, Nat.lt_irrefl, ↓reduceIte, Nat.zero_add, Nat.add_zero, ne_eq, not_true_eq_false, not_false_eq_true, reduceCtorEq]
theorem undoM_t (S : MdS h) {m : Nat} {H : HF} (G : RG (HI h) (m + 1) H) : ∃ f', CL 339 [.ref 241] h = some (.ok (.int (nI m)), wI h f') ∧ RN (f' 242) (H 0) ∧ RG f' m (poH H) ∧ f' 241 16 = nI 0 ∧ FC (HI h) f' := by
  obtain ⟨m8, h5, hk⟩ := G
  have h5' : HI (tH h 0) 241 5 = nI (m + 1) := (tH_1 h 0 5 (by decide)).trans h5
  have hc := copies_ok (h := wI h (u2 (u2 (HI h) 241 16 (nI 0)) 241 5 (nI m))) (src := 245) (dst := 242) (a := m * 169) (c := 0) S.2.2.2.2.2.1 S.2.2.1 (by decide) (by omega) (by decide) (by decide) (by decide)
  rw [HI_wI, wI_wI] at hc
  refine ⟨bcF (u2 (u2 (HI h) 241 16 (nI 0)) 241 5 (nI m)) 245 (m * 169) 242 0 169, ?_, (hk 0 (by omega)).cong (fun k hk => ?_), ⟨by omega, (bcF_o (by decide) 5).trans (w2_eq _ _ _ _), fun i hi => (hk (i + 1) (by omega)).cong (fun k hk => ?_)⟩, (bcF_o (by decide) 16).trans ((w2_ne (by omega)).trans (w2_eq _ _ _ _)), fun a x q1 q2 q3 q4 => ?_⟩
  · have e5 : bcF (u2 (u2 (HI h) 241 16 (nI 0)) 241 5 (nI m)) 245 (m * 169) 242 0 169 241 5 = nI m := (bcF_o (by decide) 5).trans (w2_eq _ _ _ _)
    have ht : tH h 0 = wI h (u2 (HI h) 241 16 (nI 0)) := rfl
    rw [e339]
    simp (disch := omega) only [S.f, (S.t 0).f, h5, h5', goes_t S, pos_nI, Nat.zero_lt_succ, Nat.succ_ne_self, Nat.add_sub_cancel, w2_eq, ht, hc, e5, w2_ne, cond_true, cond_false, bI_ok, bI_er, bV_ok, bV_er, bR_ok, bR_er, bD_ok, bD_er, bF_ok, bF_er, thr_ap, cl_nI, lt_nI, le_nI, eq_nI, m1_lt, nI_m1, m1_nI, nI_lt_m1, add_nI, sub_nI, addm_nI, z_addm, z_subm, mul_nI, fit1_0, fit1_1, fit2_n, HI_wI, HK_wI, HL_wI, HR_wI, ckK_wI, chI_wI, sI_wI, wI_wI, lz0, lz1, lz2, lz3, lz4, lz5, lz6, lz7, lz8, lz9, lz10, lz12, lz13, lz16, lz17, lz20, lz21, lz23, lz26, lz30, lz32, lz35, lz40, lz45, lz48, lz57, lz58, lz59, lz60, lz61, lz63, lz64, lz97, lz99, lz100, lz110, lz111, lz126, lz129, lz132, lz133, lz166, lz169, lz255, lz999, lz1183, lz1800, Nat.reduceAdd, Nat.reduceLT, Nat.reduceEqDiff, Nat.not_lt_zero, Nat.lt_irrefl, ↓reduceIte, Nat.zero_add, Nat.add_zero, ne_eq, not_true_eq_false, not_false_eq_true, reduceCtorEq]
  · have := bcF_t (f := u2 (u2 (HI h) 241 16 (nI 0)) 241 5 (nI m)) (src := 245) (a := m * 169) (dst := 242) (c := 0) hk
    rw [Nat.zero_add] at this
    rw [this, w2_ne (by omega), w2_ne (by omega)]
    congr 1
    omega
  · rw [bcF_o (by decide), w2_ne (by omega), w2_ne (by omega)]
    congr 1
    omega
  · rw [bcF_o q1, w2_ne (by omega), w2_ne (by omega)]
theorem saveM_ok (S : MdS h) (R : RN (HI h 242) b) : ∃ f', CL 340 [.ref 241] h = some (.ok (.int (nI (tot (kA b)))), wI h f') ∧ RS f' (some b) ∧ f' 241 16 = nI 0 ∧ ∀ a x, a ≠ 244 → ¬(a = 241 ∧ (x = 16 ∨ x = 4)) → f' a x = HI h a x := by
  have hc := copies_ok (h := wI h (u2 (HI h) 241 16 (nI 0))) (src := 242) (dst := 244) (a := 0) (c := 0) S.2.2.1 S.2.2.2.2.1 (by decide) (by decide) (by decide) (by decide) (by decide)
  rw [HI_wI, wI_wI] at hc
  refine ⟨u2 (bcF (u2 (HI h) 241 16 (nI 0)) 242 0 244 0 169) 241 4 (nI 1), ?_, ⟨w2_eq _ _ _ _, R.cong (fun k hk => ?_)⟩, ?_, fun a x q1 q2 => ?_⟩
  · have e1 : u2 (bcF (u2 (HI h) 241 16 (nI 0)) 242 0 244 0 169) 241 4 (nI 1) 242 1 = nI (tot (kA b)) := by
      rw [w2_ne (by omega), bcF_o (by decide), w2_ne (by omega)]
      exact R.m.m
    rw [e340]
    simp (disch := omega) only [S.f, S.cw (show 1 < 169 by decide), hc, e1, cond_true, cond_false, bI_ok, bI_er, bV_ok, bV_er, bR_ok, bR_er, bD_ok, bD_er, bF_ok, bF_er, thr_ap, cl_nI, lt_nI, le_nI, eq_nI, m1_lt, nI_m1, m1_nI, nI_lt_m1, add_nI, sub_nI, addm_nI, z_addm, z_subm, mul_nI, fit1_0, fit1_1, fit2_n, HI_wI, HK_wI, HL_wI, HR_wI, ckK_wI, chI_wI, sI_wI, wI_wI, lz0, lz1, lz2, lz3, lz4, lz5, lz6, lz7, lz8, lz9, lz10, lz12, lz13, lz16, lz17, lz20, lz21, lz23, lz26, lz30, lz32, lz35, lz40, lz45, lz48, lz57, lz58, lz59, lz60, lz61, lz63, lz64, lz97, lz99, lz100, lz110, lz111, lz126, lz129, lz132, lz133, lz166, lz169, lz255, lz999, lz1183, lz1800, Nat.reduceAdd, Nat.reduceLT, Nat.reduceEqDiff, Nat.not_lt_zero, Nat.lt_irrefl, ↓reduceIte, Nat.zero_add, Nat.add_zero, ne_eq, not_true_eq_false, not_false_eq_true, reduceCtorEq]
  · have := bcF_t (f := u2 (HI h) 241 16 (nI 0)) (src := 242) (a := 0) (dst := 244) (c := 0) hk
    rw [Nat.zero_add] at this
    rw [w2_ne (by omega), this, w2_ne (by omega)]
  · rw [w2_ne (by omega), bcF_o (by decide), w2_eq]
  · rw [w2_ne (by omega), bcF_o q1, w2_ne (by omega)]
theorem restoreM_f (S : MdS h) (G : RS (HI h) none) : CL 342 [.ref 241] h = some (.ok (.int (nI 0)), tH h 1) := by
  have h4 : HI h 241 4 = nI 0 := G
  rw [e342]
  simp (disch := omega) only [S.f, h4, goes_f S, cond_true, cond_false, bI_ok, bI_er, bV_ok, bV_er, bR_ok, bR_er, bD_ok, bD_er, bF_ok, bF_er, thr_ap, cl_nI, lt_nI, le_nI, eq_nI, m1_lt, nI_m1, m1_nI, nI_lt_m1, add_nI, sub_nI, addm_nI, z_addm, z_subm, mul_nI, fit1_0, fit1_1, fit2_n, HI_wI, HK_wI, HL_wI, HR_wI, ckK_wI, chI_wI, sI_wI, wI_wI, lz0, lz1, lz2, lz3, lz4, lz5, lz6, lz7, lz8, lz9, lz10, lz12, lz13, lz16, lz17, lz20, lz21, lz23, lz26, lz30, lz32, lz35, lz40, lz45, lz48, lz57, lz58, lz59, lz60, lz61, lz63, lz64, lz97, lz99, lz100, lz110, lz111, lz126, lz129, lz132, lz133, lz166, lz169, lz255, lz999, lz1183, lz1800, Nat.reduceAdd, Nat.reduceLT, Nat.reduceEqDiff, Nat.not_lt_zero, Nat.lt_irrefl, ↓reduceIte, Nat.zero_add, Nat.add_zero, ne_eq, not_true_eq_false, not_false_eq_true, reduceCtorEq]
theorem restoreM_t (S : MdS h) {H : HF} (G : RS (HI h) (some b)) : ∃ f', CL 342 [.ref 241] h = some (.ok (.int (nI (tot (kA b)))), wI h f') ∧ RN (f' 242) b ∧ RG f' 0 H ∧ f' 241 16 = nI 0 ∧ FC (HI h) f' := by
  obtain ⟨h4, R⟩ := G
  have hc := copies_ok (h := wI h (u2 (HI h) 241 16 (nI 0))) (src := 244) (dst := 242) (a := 0) (c := 0) S.2.2.2.2.1 S.2.2.1 (by decide) (by decide) (by decide) (by decide) (by decide)
  rw [HI_wI, wI_wI] at hc
  have hb : ∀ k, k < 169 → bcF (u2 (HI h) 241 16 (nI 0)) 244 0 242 0 169 242 k = HI h 244 k := fun k hk => by
    have := bcF_t (f := u2 (HI h) 241 16 (nI 0)) (src := 244) (a := 0) (dst := 242) (c := 0) hk
    rw [Nat.zero_add] at this
    rw [this, w2_ne (by omega)]
  refine ⟨u2 (bcF (u2 (HI h) 241 16 (nI 0)) 244 0 242 0 169) 241 5 (nI 0), ?_, R.cong (fun k hk => (w2_ne (by omega)).trans (hb k hk)), ⟨by decide, w2_eq _ _ _ _, fun i hi => absurd hi (Nat.not_lt_zero i)⟩, ?_, fun a x q1 q2 q3 q4 => ?_⟩
  · have e1 : bcF (u2 (HI h) 241 16 (nI 0)) 244 0 242 0 169 242 1 = nI (tot (kA b)) := (hb 1 (by decide)).trans R.m.m
    have ht : tH h 0 = wI h (u2 (HI h) 241 16 (nI 0)) := rfl
    rw [e342]
    simp (disch := omega) only [S.f, (S.t 0).f, S.cw (show 1 < 169 by decide), h4, goes_t S, Nat.succ_ne_self, ht, hc, w2_ne, e1, cond_true, cond_false, bI_ok, bI_er, bV_ok, bV_er, bR_ok, bR_er, bD_ok, bD_er, bF_ok, bF_er, thr_ap, cl_nI, lt_nI, le_nI, eq_nI, m1_lt, nI_m1, m1_nI, nI_lt_m1, add_nI, sub_nI, addm_nI, z_addm, z_subm, mul_nI, fit1_0, fit1_1, fit2_n, HI_wI, HK_wI, HL_wI, HR_wI, ckK_wI, chI_wI, sI_wI, wI_wI, lz0, lz1, lz2, lz3, lz4, lz5, lz6, lz7, lz8, lz9, lz10, lz12, lz13, lz16, lz17, lz20, lz21, lz23, lz26, lz30, lz32, lz35, lz40, lz45, lz48, lz57, lz58, lz59, lz60, lz61, lz63, lz64, lz97, lz99, lz100, lz110, lz111, lz126, lz129, lz132, lz133, lz166, lz169, lz255, lz999, lz1183, lz1800, Nat.reduceAdd, Nat.reduceLT, Nat.reduceEqDiff, Nat.not_lt_zero, Nat.lt_irrefl, ↓reduceIte, Nat.zero_add, Nat.add_zero, ne_eq, not_true_eq_false, not_false_eq_true, reduceCtorEq]
  · rw [w2_ne (by omega), bcF_o (by decide), w2_eq]
  · rw [w2_ne (by omega), bcF_o q1, w2_ne (by omega)]
theorem errM_ok (S : MdS h) {o : Option Nat} (ho : ∀ k, o = some k → k < 100) (he : HI h 241 6 = oI o) : CL 335 [.ref 241] h = match o with
    | some k => some (.ok (.int (nI k)), tH h 0)
    | none => some (.ok (.int (nI 0)), tH h 1) := by
  rw [e335]
  cases o with
  | none =>
    have he : HI h 241 6 = -nI 1 := he
    simp (disch := omega) only [S.f, he, goes_f S, cond_true, cond_false, bI_ok, bI_er, bV_ok, bV_er, bR_ok, bR_er, bD_ok, bD_er, bF_ok, bF_er, thr_ap, cl_nI, lt_nI, le_nI, eq_nI, m1_lt, nI_m1, m1_nI, nI_lt_m1, add_nI, sub_nI, addm_nI, z_addm, z_subm, mul_nI, fit1_0, fit1_1, fit2_n, HI_wI, HK_wI, HL_wI, HR_wI, ckK_wI, chI_wI, sI_wI, wI_wI, lz0, lz1, lz2, lz3, lz4, lz5, lz6, lz7, lz8, lz9, lz10, lz12, lz13, lz16, lz17, lz20, lz21, lz23, lz26, lz30, lz32, lz35, lz40, lz45, lz48, lz57, lz58, lz59, lz60, lz61, lz63, lz64, lz97, lz99, lz100, lz110, lz111, lz126, lz129, lz132, lz133, lz166, lz169, lz255, lz999, lz1183, lz1800, Nat.reduceAdd, Nat.reduceLT, Nat.reduceEqDiff, Nat.not_lt_zero, Nat.lt_irrefl, ↓reduceIte, Nat.zero_add, Nat.add_zero, ne_eq, not_true_eq_false, not_false_eq_true, reduceCtorEq]
  | some k =>
    have := ho k rfl
    have he : HI h 241 6 = nI k := he
    have he' : HI (tH h 0) 241 6 = nI k := (tH_1 h 0 6 (by decide)).trans he
    simp (disch := omega) only [S.f, (S.t 0).f, he, he', goes_t S, Nat.succ_ne_self, cond_true, cond_false, bI_ok, bI_er, bV_ok, bV_er, bR_ok, bR_er, bD_ok, bD_er, bF_ok, bF_er, thr_ap, cl_nI, lt_nI, le_nI, eq_nI, m1_lt, nI_m1, m1_nI, nI_lt_m1, add_nI, sub_nI, addm_nI, z_addm, z_subm, mul_nI, fit1_0, fit1_1, fit2_n, HI_wI, HK_wI, HL_wI, HR_wI, ckK_wI, chI_wI, sI_wI, wI_wI, lz0, lz1, lz2, lz3, lz4, lz5, lz6, lz7, lz8, lz9, lz10, lz12, lz13, lz16, lz17, lz20, lz21, lz23, lz26, lz30, lz32, lz35, lz40, lz45, lz48, lz57, lz58, lz59, lz60, lz61, lz63, lz64, lz97, lz99, lz100, lz110, lz111, lz126, lz129, lz132, lz133, lz166, lz169, lz255, lz999, lz1183, lz1800, Nat.reduceAdd, Nat.reduceLT, Nat.reduceEqDiff, Nat.not_lt_zero, Nat.lt_irrefl, ↓reduceIte, Nat.zero_add, Nat.add_zero, ne_eq, not_true_eq_false, not_false_eq_true, reduceCtorEq]
theorem failM_ok (S : MdS h) {o : Option Nat} (ho : ∀ k, o = some k → k < 100) (he : HI h 241 7 = oI o) : CL 336 [.ref 241] h = match o with
    | some k => some (.ok (.int (nI k)), tH h 0)
    | none => some (.ok (.int (nI 0)), tH h 1) := by
  rw [e336]
  cases o with
  | none =>
    have he : HI h 241 7 = -nI 1 := he
    simp (disch := omega) only [S.f, he, goes_f S, cond_true, cond_false, bI_ok, bI_er, bV_ok, bV_er, bR_ok, bR_er, bD_ok, bD_er, bF_ok, bF_er, thr_ap, cl_nI, lt_nI, le_nI, eq_nI, m1_lt, nI_m1, m1_nI, nI_lt_m1, add_nI, sub_nI, addm_nI, z_addm, z_subm, mul_nI, fit1_0, fit1_1, fit2_n, HI_wI, HK_wI, HL_wI, HR_wI, ckK_wI, chI_wI, sI_wI, wI_wI, lz0, lz1, lz2, lz3, lz4, lz5, lz6, lz7, lz8, lz9, lz10, lz12, lz13, lz16, lz17, lz20, lz21, lz23, lz26, lz30, lz32, lz35, lz40, lz45, lz48, lz57, lz58, lz59, lz60, lz61, lz63, lz64, lz97, lz99, lz100, lz110, lz111, lz126, lz129, lz132, lz133, lz166, lz169, lz255, lz999, lz1183, lz1800, Nat.reduceAdd, Nat.reduceLT, Nat.reduceEqDiff, Nat.not_lt_zero, Nat.lt_irrefl, ↓reduceIte, Nat.zero_add, Nat.add_zero, ne_eq, not_true_eq_false, not_false_eq_true, reduceCtorEq]
  | some k =>
    have := ho k rfl
    have he : HI h 241 7 = nI k := he
    have he' : HI (tH h 0) 241 7 = nI k := (tH_1 h 0 7 (by decide)).trans he
    simp (disch := omega) only [S.f, (S.t 0).f, he, he', goes_t S, Nat.succ_ne_self, cond_true, cond_false, bI_ok, bI_er, bV_ok, bV_er, bR_ok, bR_er, bD_ok, bD_er, bF_ok, bF_er, thr_ap, cl_nI, lt_nI, le_nI, eq_nI, m1_lt, nI_m1, m1_nI, nI_lt_m1, add_nI, sub_nI, addm_nI, z_addm, z_subm, mul_nI, fit1_0, fit1_1, fit2_n, HI_wI, HK_wI, HL_wI, HR_wI, ckK_wI, chI_wI, sI_wI, wI_wI, lz0, lz1, lz2, lz3, lz4, lz5, lz6, lz7, lz8, lz9, lz10, lz12, lz13, lz16, lz17, lz20, lz21, lz23, lz26, lz30, lz32, lz35, lz40, lz45, lz48, lz57, lz58, lz59, lz60, lz61, lz63, lz64, lz97, lz99, lz100, lz110, lz111, lz126, lz129, lz132, lz133, lz166, lz169, lz255, lz999, lz1183, lz1800, Nat.reduceAdd, Nat.reduceLT, Nat.reduceEqDiff, Nat.not_lt_zero, Nat.lt_irrefl, ↓reduceIte, Nat.zero_add, Nat.add_zero, ne_eq, not_true_eq_false, not_false_eq_true, reduceCtorEq]
end MQ
