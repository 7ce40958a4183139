/-! THE CLASS: the line of a key -/
def kp (A : AF) (k : Nat) : Nat → List Nat
  | 0 => dig k ++ [58]
  | s + 1 => kp A k s ++ pcs A k s
theorem kp_len {A : AF} {k : Nat} (hk : k < 1000) (h : ∀ s, s < 3 → A s k < 100) : ∀ s, s ≤ 3 → (kp A k s).length ≤ 4 + 4 * s
  | 0, _ => by
    have := dig_len3 hk
    show (dig k ++ [58]).length ≤ 4
    rw [la1]
    omega
  | s + 1, hs => by
    have h1 := kp_len hk h s (by omega)
    have h2 := pcs_len (h s (by omega))
    show (kp A k s ++ pcs A k s).length ≤ 4 + 4 * (s + 1)
    rw [la2]
    omega
theorem row_fl {f f' : Nat → Nat → Int32} {B r k : Nat} (H : FLc f f') (hB : B + 17 ≤ 239) (h : r < tn f (B + 1) ∧ tk f (B + 1) r = k) : r < tn f' (B + 1) ∧ tk f' (B + 1) r = k := by
  have e1 : tn f' (B + 1) = tn f (B + 1) := congrArg Int32.toNatClampNeg (H (B + 1) 3 (by omega) (by omega) (by omega))
  have e2 : tk f' (B + 1) r = tk f (B + 1) r := congrArg Int32.toNatClampNeg (H (B + 1 + 1) r (by omega) (by omega) (by omega))
  rw [e1, e2]
  exact h
section CL3
variable {h : Hp} {f : Nat → Nat → Int32} {L : List Nat} {c A B : Nat} {b : Bk}
theorem keyC_fin {r k : Nat} (hk : k < 1000) (hr : r < tn f (B + 1) ∧ tk f (B + 1) r = k) (C : CI h f (keyB (kA b) k) c A B b) (v : Value) : ST (RF 97 30 [.ref 31, .int (nI k), .int (nI r), .int (nI 3), v] []) (.int (nI (keyL (kA b) k).length)) h f c B b (keyL (kA b) k) := by
  have hB := C.2.2.1
  obtain ⟨hr1, hr2⟩ := hr
  have n30 := C.r.t.n30
  have hA : ∀ s, s < 3 → kA b s k < 100 := fun s hs => by
    rw [← hr2, C.r.t.a hs hr1]
    exact C.r.t.N.a9 hs (by omega)
  have hl : (keyB (kA b) k).length ≤ 16 := keyB_len hk hA
  obtain ⟨w1, w2, w3, w4, w5, w6, w7, _⟩ := lws28
  have hst := statusAt_ok (h := wI h f) C.q.t C.r.t.N (r := r) (by omega)
  have est : st3 (ta f (B + 1) 0 r) (ta f (B + 1) 1 r) (ta f (B + 1) 2 r) = stA (kA b) k := by
    rw [← hr2]
    exact (C.r.t.st hr1).symm
  rw [show (st3 (ta (HI (wI h f)) (B + 1) 0 r) (ta (HI (wI h f)) (B + 1) 1 r) (ta (HI (wI h f)) (B + 1) 2 r)) = stA (kA b) k from est] at hst
  have hsl : stA (kA b) k < 112 := st3_lt _ _ _
  unfold keyL
  by_cases q1 : stA (kA b) k = 99
  · rw [if_pos q1]
    obtain ⟨g1, f1, c1, A1, a1, C1, G1, F1⟩ := sS C (a := 4) (by decide) (by decide) (by decide) (by omega) (by omega)
    rw [w5] at C1
    rw [q1] at hst
    refine ST.mk ?_ C1 G1 F1
    rw [e97_30]
    simp (disch := omega) only [C.q.f, C.q.t.f, C.l, C.s.ck, C1.q.f, C1.l, C1.s.ck, hst, a1, length_ok C1.s, cond_true, cond_false, bI_ok, bI_er, bV_ok, bV_er, bR_ok, bR_er, bD_ok, bD_er, bF_ok, bF_er, thr_ap, cl_nI, lt_nI, le_nI, eq_nI, m1_lt, nI_m1, m1_nI, nI_lt_m1, add_nI, sub_nI, addm_nI, z_addm, z_subm, mul_nI, fit1_0, fit1_1, fit2_n, HI_wI, HK_wI, HL_wI, HR_wI, ckK_wI, chI_wI, sI_wI, wI_wI, lz0, lz1, lz2, lz3, lz4, lz5, lz6, lz7, lz8, lz9, lz10, lz12, lz13, lz16, lz17, lz20, lz21, lz23, lz26, lz30, lz32, lz35, lz40, lz45, lz48, lz57, lz58, lz59, lz60, lz61, lz63, lz64, lz97, lz99, lz100, lz110, lz111, lz126, lz129, lz132, lz133, lz166, lz169, lz255, lz999, lz1183, lz1800, Nat.reduceAdd, Nat.reduceLT, Nat.reduceEqDiff, Nat.not_lt_zero, Nat.lt_irrefl, ↓reduceIte, Nat.zero_add, Nat.add_zero, ne_eq, not_true_eq_false, not_false_eq_true, reduceCtorEq]
  · rw [if_neg q1]
    by_cases q2 : stA (kA b) k = 100
    · rw [if_pos q2]
      obtain ⟨g1, f1, c1, A1, a1, C1, G1, F1⟩ := sS C (a := 6) (by decide) (by decide) (by decide) (by omega) (by omega)
      rw [w6] at C1
      obtain ⟨y1, y2⟩ := row_fl F1 hB.2 ⟨hr1, hr2⟩
      have hac := acceptedAt_ok (h := wI g1 f1) C1.q.t C1.r.t.N (r := r) (by omega)
      have eac : ac3 (ta f1 (B + 1) 0 r) (ta f1 (B + 1) 1 r) (ta f1 (B + 1) 2 r) = acA (kA b) k := by
        rw [← y2]
        exact (C1.r.t.ac y1).symm
      rw [show (ac3 (ta (HI (wI g1 f1)) (B + 1) 0 r) (ta (HI (wI g1 f1)) (B + 1) 1 r) (ta (HI (wI g1 f1)) (B + 1) 2 r)) = acA (kA b) k from eac] at hac
      have hacl : acA (kA b) k < 100 := by
        have h0 := hA 0 (by decide)
        have h1 := hA 1 (by decide)
        have h2 := hA 2 (by decide)
        unfold acA ac3 mn0
        repeat' split
        all_goals omega
      obtain ⟨g2, f2, c2, A2, a2, C2, G2, F2⟩ := sI' C1 (v := acA (kA b) k) (by omega) (by rw [la2, lws_len]; omega)
      rw [q2] at hst
      refine ST.mk ?_ C2 (G1.trans G2) (F1.trans F2)
      rw [e97_30]
      simp (disch := omega) only [C.q.f, C.q.t.f, C.l, C.s.ck, C1.q.f, C1.q.t.f, C1.l, C1.s.ck, C2.q.f, C2.l, C2.s.ck, hst, a1, hac, a2, length_ok C2.s, show ¬(100 = 99) by decide, cond_true, cond_false, bI_ok, bI_er, bV_ok, bV_er, bR_ok, bR_er, bD_ok, bD_er, bF_ok, bF_er, thr_ap, cl_nI, lt_nI, le_nI, eq_nI, m1_lt, nI_m1, m1_nI, nI_lt_m1, add_nI, sub_nI, addm_nI, z_addm, z_subm, mul_nI, fit1_0, fit1_1, fit2_n, HI_wI, HK_wI, HL_wI, HR_wI, ckK_wI, chI_wI, sI_wI, wI_wI, lz0, lz1, lz2, lz3, lz4, lz5, lz6, lz7, lz8, lz9, lz10, lz12, lz13, lz16, lz17, lz20, lz21, lz23, lz26, lz30, lz32, lz35, lz40, lz45, lz48, lz57, lz58, lz59, lz60, lz61, lz63, lz64, lz97, lz99, lz100, lz110, lz111, lz126, lz129, lz132, lz133, lz166, lz169, lz255, lz999, lz1183, lz1800, Nat.reduceAdd, Nat.reduceLT, Nat.reduceEqDiff, Nat.not_lt_zero, Nat.lt_irrefl, ↓reduceIte, Nat.zero_add, Nat.add_zero, ne_eq, not_true_eq_false, not_false_eq_true, reduceCtorEq]
    · rw [if_neg q2]
      obtain ⟨g1, f1, c1, A1, a1, C1, G1, F1⟩ := sS C (a := 8) (by decide) (by decide) (by decide) (by omega) (by omega)
      rw [w7] at C1
      refine ST.mk ?_ C1 G1 F1
      rw [e97_30]
      simp (disch := omega) only [C.q.f, C.q.t.f, C.l, C.s.ck, C1.q.f, C1.l, C1.s.ck, hst, a1, length_ok C1.s, q1, q2, cond_true, cond_false, bI_ok, bI_er, bV_ok, bV_er, bR_ok, bR_er, bD_ok, bD_er, bF_ok, bF_er, thr_ap, cl_nI, lt_nI, le_nI, eq_nI, m1_lt, nI_m1, m1_nI, nI_lt_m1, add_nI, sub_nI, addm_nI, z_addm, z_subm, mul_nI, fit1_0, fit1_1, fit2_n, HI_wI, HK_wI, HL_wI, HR_wI, ckK_wI, chI_wI, sI_wI, wI_wI, lz0, lz1, lz2, lz3, lz4, lz5, lz6, lz7, lz8, lz9, lz10, lz12, lz13, lz16, lz17, lz20, lz21, lz23, lz26, lz30, lz32, lz35, lz40, lz45, lz48, lz57, lz58, lz59, lz60, lz61, lz63, lz64, lz97, lz99, lz100, lz110, lz111, lz126, lz129, lz132, lz133, lz166, lz169, lz255, lz999, lz1183, lz1800, Nat.reduceAdd, Nat.reduceLT, Nat.reduceEqDiff, Nat.not_lt_zero, Nat.lt_irrefl, ↓reduceIte, Nat.zero_add, Nat.add_zero, ne_eq, not_true_eq_false, not_false_eq_true, reduceCtorEq]
theorem keyC_loop {r k : Nat} (hk : k < 1000) : ∀ (d s : Nat) (h : Hp) (f : Nat → Nat → Int32) (c A : Nat) (v : Value), s + d = 3 → CI h f (kp (kA b) k s) c A B b → (r < tn f (B + 1) ∧ tk f (B + 1) r = k) → ST (RF 97 30 [.ref 31, .int (nI k), .int (nI r), .int (nI s), v] []) (.int (nI (keyL (kA b) k).length)) h f c B b (keyL (kA b) k) := by
  intro d
  induction d with
  | zero =>
    intro s h f c A v hs C hr
    have e : s = 3 := by omega
    subst e
    have C' : CI h f (keyB (kA b) k) c A B b := C
    exact keyC_fin hk hr C' v
  | succ d ih =>
    intro s h f c A v hs C hr
    have hs3 : s < 3 := by omega
    have hB := C.2.2.1
    obtain ⟨hr1, hr2⟩ := hr
    have n30 := C.r.t.n30
    have hA : ∀ s, s < 3 → kA b s k < 100 := fun s hs => by
      rw [← hr2, C.r.t.a hs hr1]
      exact C.r.t.N.a9 hs (by omega)
    have hl := kp_len hk hA s (by omega)
    have ha := C.r.t.N.a hs3 (show r < 30 by omega)
    rw [← C.r.t.a hs3 hr1, hr2] at ha
    have h100 := hA s hs3
    have ekp : kp (kA b) k (s + 1) = kp (kA b) k s ++ pcs (kA b) k s := rfl
    by_cases q : 0 < kA b s k
    · have ep : kp (kA b) k (s + 1) = ((kp (kA b) k s ++ [32]) ++ [97 + s]) ++ dig (kA b s k) := by
        rw [ekp]
        unfold pcs
        rw [if_pos q]
        simp only [List.append_assoc]
      obtain ⟨g1, f1, c1, A1, a1, C1, G1, F1⟩ := sC C (ch := 32) (by decide) (by omega)
      obtain ⟨g2, f2, c2, A2, a2, C2, G2, F2⟩ := sC C1 (ch := 97 + s) (by omega) (by rw [la1]; omega)
      obtain ⟨g3, f3, c3, A3, a3, C3, G3, F3⟩ := sI' C2 (v := kA b s k) (by omega) (by rw [la1, la1]; omega)
      rw [← ep] at C3
      have F13 := (F1.trans F2).trans F3
      obtain ⟨g4, f4, c4, A4, a4, C4, G4, F4⟩ := ih (s + 1) g3 f3 c3 A3 (.int (nI (kA b s k))) (by omega) C3 (row_fl F13 hB.2 ⟨hr1, hr2⟩)
      refine ST.mk ?_ C4 (((G1.trans G2).trans G3).trans G4) (F13.trans F4)
      rw [e97_30]
      simp (disch := omega) only [C.q.f, C.q.t.f, C.q.t.s hs3, C.q.t.sr hs3 (show r < 30 by omega), C.l, C.s.ck, hs3, ha, q, a1, letter_ok (show s < 1000 by omega), C1.s.ck, a2, C2.s.ck, a3, a4, cond_true, cond_false, bI_ok, bI_er, bV_ok, bV_er, bR_ok, bR_er, bD_ok, bD_er, bF_ok, bF_er, thr_ap, cl_nI, lt_nI, le_nI, eq_nI, m1_lt, nI_m1, m1_nI, nI_lt_m1, add_nI, sub_nI, addm_nI, z_addm, z_subm, mul_nI, fit1_0, fit1_1, fit2_n, HI_wI, HK_wI, HL_wI, HR_wI, ckK_wI, chI_wI, sI_wI, wI_wI, lz0, lz1, lz2, lz3, lz4, lz5, lz6, lz7, lz8, lz9, lz10, lz12, lz13, lz16, lz17, lz20, lz21, lz23, lz26, lz30, lz32, lz35, lz40, lz45, lz48, lz57, lz58, lz59, lz60, lz61, lz63, lz64, lz97, lz99, lz100, lz110, lz111, lz126, lz129, lz132, lz133, lz166, lz169, lz255, lz999, lz1183, lz1800, Nat.reduceAdd, Nat.reduceLT, Nat.reduceEqDiff, Nat.not_lt_zero, Nat.lt_irrefl, ↓reduceIte, Nat.zero_add, Nat.add_zero, ne_eq, not_true_eq_false, not_false_eq_true, reduceCtorEq]
    · have ep : kp (kA b) k (s + 1) = kp (kA b) k s := by
        rw [ekp]
        unfold pcs
        rw [if_neg q, List.append_nil]
      have e0 : kA b s k = 0 := by omega
      rw [e0] at ha
      obtain ⟨g4, f4, c4, A4, a4, C4, G4, F4⟩ := ih (s + 1) h f c A (.int (nI 0)) (by omega) (by rw [ep]; exact C) ⟨hr1, hr2⟩
      refine ST.mk ?_ C4 G4 F4
      rw [e97_30]
      simp (disch := omega) only [C.q.f, C.q.t.f, C.q.t.s hs3, C.q.t.sr hs3 (show r < 30 by omega), C.l, C.s.ck, hs3, ha, a4, cond_true, cond_false, bI_ok, bI_er, bV_ok, bV_er, bR_ok, bR_er, bD_ok, bD_er, bF_ok, bF_er, thr_ap, cl_nI, lt_nI, le_nI, eq_nI, m1_lt, nI_m1, m1_nI, nI_lt_m1, add_nI, sub_nI, addm_nI, z_addm, z_subm, mul_nI, fit1_0, fit1_1, fit2_n, HI_wI, HK_wI, HL_wI, HR_wI, ckK_wI, chI_wI, sI_wI, wI_wI, lz0, lz1, lz2, lz3, lz4, lz5, lz6, lz7, lz8, lz9, lz10, lz12, lz13, lz16, lz17, lz20, lz21, lz23, lz26, lz30, lz32, lz35, lz40, lz45, lz48, lz57, lz58, lz59, lz60, lz61, lz63, lz64, lz97, lz99, lz100, lz110, lz111, lz126, lz129, lz132, lz133, lz166, lz169, lz255, lz999, lz1183, lz1800, Nat.reduceAdd, Nat.reduceLT, Nat.reduceEqDiff, Nat.not_lt_zero, Nat.lt_irrefl, ↓reduceIte, Nat.zero_add, Nat.add_zero, ne_eq, not_true_eq_false, not_false_eq_true, reduceCtorEq]
theorem keyC_t (C : CI h f L c A B b) {k : Nat} (hk : k < 1000) (h0 : 0 < hoA (kA b) k) : ST (CL 97 [.ref 31, .int (nI k)]) (.int (nI (keyL (kA b) k).length)) h f c B b (keyL (kA b) k) := by
  have hB := C.2.2.1
  have n30 := C.r.t.n30
  obtain ⟨r, r1, r2, r3⟩ := rqRow_t (h := wI h f) C.q C.r hk h0
  have r1 : r < tn f (B + 1) := r1
  have r2 : tk f (B + 1) r = k := r2
  have l1 := dig_len3 hk
  obtain ⟨g0, f0, c0, A0, a0, C0, G0, F0⟩ := sE C
  obtain ⟨g1, f1, c1, A1, a1, C1, G1, F1⟩ := sI' C0 (v := k) (by omega) (by decide)
  obtain ⟨g2, f2, c2, A2, a2, C2, G2, F2⟩ := sC C1 (ch := 58) (by decide) (by rw [List.nil_append]; omega)
  have F02 := (F0.trans F1).trans F2
  rw [List.nil_append] at C2
  obtain ⟨g3, f3, c3, A3, a3, C3, G3, F3⟩ := keyC_loop (r := r) hk 3 0 g2 f2 c2 A2 .null (by decide) C2 (row_fl F02 hB.2 ⟨r1, r2⟩)
  refine ST.mk ?_ C3 (((G0.trans G1).trans G2).trans G3) (F02.trans F3)
  rw [e97]
  simp (disch := omega) only [C.q.f, C.l, C.s.ck, r3, a0, C0.q.f, C0.l, C0.s.ck, a1, C1.s.ck, a2, a3, cond_true, cond_false, bI_ok, bI_er, bV_ok, bV_er, bR_ok, bR_er, bD_ok, bD_er, bF_ok, bF_er, thr_ap, cl_nI, lt_nI, le_nI, eq_nI, m1_lt, nI_m1, m1_nI, nI_lt_m1, add_nI, sub_nI, addm_nI, z_addm, z_subm, mul_nI, fit1_0, fit1_1, fit2_n, HI_wI, HK_wI, HL_wI, HR_wI, ckK_wI, chI_wI, sI_wI, wI_wI, lz0, lz1, lz2, lz3, lz4, lz5, lz6, lz7, lz8, lz9, lz10, lz12, lz13, lz16, lz17, lz20, lz21, lz23, lz26, lz30, lz32, lz35, lz40, lz45, lz48, lz57, lz58, lz59, lz60, lz61, lz63, lz64, lz97, lz99, lz100, lz110, lz111, lz126, lz129, lz132, lz133, lz166, lz169, lz255, lz999, lz1183, lz1800, Nat.reduceAdd, Nat.reduceLT, Nat.reduceEqDiff, Nat.not_lt_zero, Nat.lt_irrefl, ↓reduceIte, Nat.zero_add, Nat.add_zero, ne_eq, not_true_eq_false, not_false_eq_true, reduceCtorEq]
theorem keyC_f (C : CI h f L c A B b) (x : Int32) (hx : inr 0 999 x = false) : CL 97 [.ref 31, .int x] (wI h f) = some (.error 1, hthr (wI h f)) := by
  rw [e97, rqRow_f x hx]
  simp (disch := omega) only [C.q.f, cond_true, cond_false, bI_ok, bI_er, bV_ok, bV_er, bR_ok, bR_er, bD_ok, bD_er, bF_ok, bF_er, thr_ap, cl_nI, lt_nI, le_nI, eq_nI, m1_lt, nI_m1, m1_nI, nI_lt_m1, add_nI, sub_nI, addm_nI, z_addm, z_subm, mul_nI, fit1_0, fit1_1, fit2_n, HI_wI, HK_wI, HL_wI, HR_wI, ckK_wI, chI_wI, sI_wI, wI_wI, lz0, lz1, lz2, lz3, lz4, lz5, lz6, lz7, lz8, lz9, lz10, lz12, lz13, lz16, lz17, lz20, lz21, lz23, lz26, lz30, lz32, lz35, lz40, lz45, lz48, lz57, lz58, lz59, lz60, lz61, lz63, lz64, lz97, lz99, lz100, lz110, lz111, lz126, lz129, lz132, lz133, lz166, lz169, lz255, lz999, lz1183, lz1800, Nat.reduceAdd, Nat.reduceLT, Nat.reduceEqDiff, Nat.not_lt_zero, Nat.lt_irrefl, ↓reduceIte, Nat.zero_add, Nat.add_zero, ne_eq, not_true_eq_false, not_false_eq_true, reduceCtorEq]
theorem keyC_n (C : CI h f L c A B b) {k : Nat} (hk : k < 1000) (h0 : hoA (kA b) k = 0) : CL 97 [.ref 31, .int (nI k)] (wI h f) = some (.error 4, hthr (wI h f)) := by
  rw [e97, rqRow_n (h := wI h f) C.q C.r hk h0]
  simp (disch := omega) only [C.q.f, cond_true, cond_false, bI_ok, bI_er, bV_ok, bV_er, bR_ok, bR_er, bD_ok, bD_er, bF_ok, bF_er, thr_ap, cl_nI, lt_nI, le_nI, eq_nI, m1_lt, nI_m1, m1_nI, nI_lt_m1, add_nI, sub_nI, addm_nI, z_addm, z_subm, mul_nI, fit1_0, fit1_1, fit2_n, HI_wI, HK_wI, HL_wI, HR_wI, ckK_wI, chI_wI, sI_wI, wI_wI, lz0, lz1, lz2, lz3, lz4, lz5, lz6, lz7, lz8, lz9, lz10, lz12, lz13, lz16, lz17, lz20, lz21, lz23, lz26, lz30, lz32, lz35, lz40, lz45, lz48, lz57, lz58, lz59, lz60, lz61, lz63, lz64, lz97, lz99, lz100, lz110, lz111, lz126, lz129, lz132, lz133, lz166, lz169, lz255, lz999, lz1183, lz1800, Nat.reduceAdd, Nat.reduceLT, Nat.reduceEqDiff, Nat.not_lt_zero, Nat.lt_irrefl, ↓reduceIte, Nat.zero_add, Nat.add_zero, ne_eq, not_true_eq_false, not_false_eq_true, reduceCtorEq]
end CL3
