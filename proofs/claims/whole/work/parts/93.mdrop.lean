/-! THE REFERENCE: dropping -/
def dkF (f : Nat → Nat → Int32) (lo i : Nat) : Nat → Nat → Int32 := fun a x => if a = 242 ∧ lo ≤ x ∧ x < i then f 242 (x + 4) else f a x
theorem dkF_step (f : Nat → Nat → Int32) (lo i : Nat) (h : lo ≤ i) : u2 (dkF f lo i) 242 i (dkF f lo i 242 (i + 4)) = dkF f lo (i + 1) := by
  funext b x
  have e1 : dkF f lo i 242 (i + 4) = f 242 (i + 4) := if_neg (by omega)
  rw [e1]
  unfold u2 dkF
  by_cases q : b = 242 ∧ x = i
  · obtain ⟨rfl, rfl⟩ := q
    rw [if_pos ⟨rfl, rfl⟩, if_pos ⟨rfl, h, by omega⟩]
  · rw [if_neg q]
    by_cases q2 : b = 242 ∧ lo ≤ x ∧ x < i
    · rw [if_pos q2, if_pos ⟨q2.1, q2.2.1, by omega⟩]
    · rw [if_neg q2, if_neg (by omega)]
section MC
variable {h : Hp} {b : Bk}
theorem drops_t (S : MdS h) (R : RN (HI h 242) b) {s k : Nat} (hs : s < 3) (hk : k < 1000) (h0 : 0 < kA b s k) : ∃ f', CL 239 [.ref 241, .int (nI (97 + s)), .int (nI k)] h = some (.ok (.int (nI (tot (sA (kA b) s k 0)))), wI h f') ∧ RN (f' 242) (drB b s k) ∧ f' 241 16 = nI 0 ∧ FM (HI h) f' := by
  have m30 := R.1.m30
  obtain ⟨w, w1, w2, w3, hf⟩ := find_t S R.1 hs hk h0
  have hi1 := isSource_ok (h := h) (nI (97 + s))
  have hi2 := isKeyM_ok (h := h) (nI k)
  rw [inr_nI (by omega) (by omega) (by decide), b2t] at hi1 hi2
  have hg := holds_ok S true true true
  rw [b2t, show thN true true true = 0 from rfl, show b2n (decide (0 = 0)) = 1 from rfl] at hg
  have hT : tot (sA (kA b) s k 0) = tot (kA b) - 1 := by
    have := tot_sA (kA b) (s := s) (k := k) (v := 0) hs hk
    simp only [h0, decide_true, b2t, Nat.lt_irrefl, decide_false, b2f] at this
    omega
  have hst : CL 239 [.ref 241, .int (nI (97 + s)), .int (nI k)] h = RF 239 54 [.ref 241, .int (nI (97 + s)), .int (nI k), .int (nI w), .int (nI (13 + 4 * w))] [] (wI h (u2 (HI h) 241 16 (nI 0))) := by
    rw [e239]
    simp (disch := omega) only [S.f, hf, hi1, hi2, hg, Nat.succ_ne_self, cond_true, cond_false, bI_ok, bI_er, bV_ok, bV_er, bR_ok, bR_er, bD_ok, bD_er, bF_ok, bF_er, thr_ap, cl_nI, lt_nI, le_nI, eq_nI, m1_lt, nI_m1, m1_nI, nI_lt_m1, add_nI, sub_nI, addm_nI, z_addm, z_subm, mul_nI, fit1_0, fit1_1, fit2_n, HI_wI, HK_wI, HL_wI, HR_wI, ckK_wI, chI_wI, sI_wI, wI_wI, lz0, lz1, lz2, lz3, lz4, lz5, lz6, lz7, lz8, lz9, lz10, lz12, lz13, lz16, lz17, lz20, lz21, lz23, lz26, lz30, lz32, lz35, lz40, lz45, lz48, lz57, lz58, lz59, lz60, lz61, lz63, lz64, lz97, lz99, lz100, lz110, lz111, lz126, lz129, lz132, lz133, lz166, lz169, lz255, lz999, lz1183, lz1800, Nat.reduceAdd, Nat.reduceLT, Nat.reduceEqDiff, Nat.not_lt_zero, Nat.lt_irrefl, ↓reduceIte, Nat.zero_add, Nat.add_zero, ne_eq, not_true_eq_false, not_false_eq_true, reduceCtorEq]
  have e0 : u2 (HI h) 241 16 (nI 0) = dkF (u2 (HI h) 241 16 (nI 0)) (13 + 4 * w) (13 + 4 * w) := by
    funext b x
    exact (if_neg (by omega)).symm
  have h1z : dkF (u2 (HI h) 241 16 (nI 0)) (13 + 4 * w) 129 242 1 = nI (tot (kA b)) := (if_neg (by omega)).trans ((w2_ne (by omega)).trans R.1.m)
  have h6z : dkF (u2 (HI h) 241 16 (nI 0)) (13 + 4 * w) 129 242 6 = nI (kU b 3) := (if_neg (by omega)).trans ((w2_ne (by omega)).trans (R.2.2.2.1 3 (by decide)))
  have hgo : ∀ a x, ¬(a = 242 ∧ 13 + 4 * w ≤ x ∧ x < 129) → ¬(a = 242 ∧ x = 1) → ¬(a = 242 ∧ x = 6) → ¬(a = 241 ∧ x = 16) → u2 (u2 (dkF (u2 (HI h) 241 16 (nI 0)) (13 + 4 * w) 129) 242 1 (nI (tot (kA b) - 1))) 242 6 (nI (kU b 3 + 1)) a x = HI h a x := fun a x q1 q2 q3 q4 => by
    rw [w2_ne q3, w2_ne q2]
    exact (if_neg q1).trans (w2_ne q4)
  refine ⟨u2 (u2 (dkF (u2 (HI h) 241 16 (nI 0)) (13 + 4 * w) 129) 242 1 (nI (tot (kA b) - 1))) 242 6 (nI (kU b 3 + 1)), ?_, ⟨?_, R.q.cong (fun k hk hk2 => hgo _ _ (by omega) (by omega) (by omega) (by omega)), fun s hs => ?_, fun j hj => ?_, ?_⟩, ?_, fun a x q1 q2 => hgo _ _ (by omega) (by omega) (by omega) q2⟩
  · refine hst.trans ((congrArg (fun q => RF 239 54 [.ref 241, .int (nI (97 + s)), .int (nI k), .int (nI w), .int (nI (13 + 4 * w))] [] (wI h q)) e0).trans ?_)
    refine (lpUp (F := fun i => RF 239 54 [.ref 241, .int (nI (97 + s)), .int (nI k), .int (nI w), .int (nI i)] [] (wI h (dkF (u2 (HI h) 241 16 (nI 0)) (13 + 4 * w) i))) (show 13 + 4 * w ≤ 129 by omega) (fun i h1 h2 => ?_)).trans ?_
    · rw [e239_54]
      simp (disch := omega) only [S.f, h2, S.cw (show i < 169 by omega), S.cw (show i + 4 < 169 by omega), dkF_step _ _ _ h1, cond_true, cond_false, bI_ok, bI_er, bV_ok, bV_er, bR_ok, bR_er, bD_ok, bD_er, bF_ok, bF_er, thr_ap, cl_nI, lt_nI, le_nI, eq_nI, m1_lt, nI_m1, m1_nI, nI_lt_m1, add_nI, sub_nI, addm_nI, z_addm, z_subm, mul_nI, fit1_0, fit1_1, fit2_n, HI_wI, HK_wI, HL_wI, HR_wI, ckK_wI, chI_wI, sI_wI, wI_wI, lz0, lz1, lz2, lz3, lz4, lz5, lz6, lz7, lz8, lz9, lz10, lz12, lz13, lz16, lz17, lz20, lz21, lz23, lz26, lz30, lz32, lz35, lz40, lz45, lz48, lz57, lz58, lz59, lz60, lz61, lz63, lz64, lz97, lz99, lz100, lz110, lz111, lz126, lz129, lz132, lz133, lz166, lz169, lz255, lz999, lz1183, lz1800, Nat.reduceAdd, Nat.reduceLT, Nat.reduceEqDiff, Nat.not_lt_zero, Nat.lt_irrefl, ↓reduceIte, Nat.zero_add, Nat.add_zero, ne_eq, not_true_eq_false, not_false_eq_true, reduceCtorEq]
    · rw [e239_54, hT]
      simp (disch := omega) only [S.f, S.cw (show 1 < 169 by decide), S.cw (show 6 < 169 by decide), h1z, h6z, w2_ne, w2_eq, cond_true, cond_false, bI_ok, bI_er, bV_ok, bV_er, bR_ok, bR_er, bD_ok, bD_er, bF_ok, bF_er, thr_ap, cl_nI, lt_nI, le_nI, eq_nI, m1_lt, nI_m1, m1_nI, nI_lt_m1, add_nI, sub_nI, addm_nI, z_addm, z_subm, mul_nI, fit1_0, fit1_1, fit2_n, HI_wI, HK_wI, HL_wI, HR_wI, ckK_wI, chI_wI, sI_wI, wI_wI, lz0, lz1, lz2, lz3, lz4, lz5, lz6, lz7, lz8, lz9, lz10, lz12, lz13, lz16, lz17, lz20, lz21, lz23, lz26, lz30, lz32, lz35, lz40, lz45, lz48, lz57, lz58, lz59, lz60, lz61, lz63, lz64, lz97, lz99, lz100, lz110, lz111, lz126, lz129, lz132, lz133, lz166, lz169, lz255, lz999, lz1183, lz1800, Nat.reduceAdd, Nat.reduceLT, Nat.reduceEqDiff, Nat.not_lt_zero, Nat.lt_irrefl, ↓reduceIte, Nat.zero_add, Nat.add_zero, ne_eq, not_true_eq_false, not_false_eq_true, reduceCtorEq]
  · have hd := R.1.del (g' := u2 (u2 (dkF (u2 (HI h) 241 16 (nI 0)) (13 + 4 * w) 129) 242 1 (nI (tot (kA b) - 1))) 242 6 (nI (kU b 3 + 1)) 242) w1 (by rw [w2_ne (by omega), w2_eq]) (fun j c hj hc => by
      rw [w2_ne (by omega), w2_ne (by omega)]
      by_cases q : w ≤ j
      · rw [if_pos q]
        unfold dkF
        rw [if_pos ⟨rfl, by omega, by omega⟩, w2_ne (by omega)]
        congr 1
        omega
      · rw [if_neg q]
        exact (if_neg (by omega)).trans (w2_ne (by omega)))
    rw [w2, w3] at hd
    exact hd
  · rw [hgo _ _ (by omega) (by omega) (by omega) (by omega)]
    exact R.2.2.1 s hs
  · show _ = nI (if j = 3 then kU b 3 + 1 else kU b j)
    by_cases q : j = 3
    · subst q
      rw [if_pos rfl]
      exact w2_eq _ _ _ _
    · rw [if_neg q, hgo _ _ (by omega) (by omega) (by omega) (by omega)]
      exact R.2.2.2.1 j hj
  · rw [hgo _ _ (by omega) (by omega) (by omega) (by omega)]
    exact R.2.2.2.2
  · rw [w2_ne (by omega), w2_ne (by omega)]
    exact (if_neg (by omega)).trans (w2_eq _ _ _ _)
end MC
