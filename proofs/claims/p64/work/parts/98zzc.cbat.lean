/-! THE CLASS: the line of the batch -/
theorem batL_len {A : AF} {Q : QF} {n : Nat} (hQ : ∀ i, i < n → (Q i).2.1 < 1000 ∧ (Q i).2.2 < 100) : ∀ i, i ≤ n → (batL A Q i).length ≤ 9 * i
  | 0, _ => Nat.zero_le 0
  | i + 1, hi => by
    have ih := batL_len (A := A) hQ i (by omega)
    have h1 := dig_len3 (hQ i (by omega)).1
    have h2 := dig_len2 (hQ i (by omega)).2
    have h3 : (if i = 0 then ([] : List Nat) else [32]).length ≤ 1 := by
      split
      · exact Nat.zero_le 1
      · exact Nat.le_refl 1
    show ((batL A Q i ++ (if i = 0 then [] else [32])) ++ repL A Q i).length ≤ 9 * (i + 1)
    unfold repL
    rw [la2, la2, la1, la2, la1, la2]
    show (batL A Q i).length + (if i = 0 then ([] : List Nat) else [32]).length + (1 + (dig (Q i).2.1).length + 1 + (dig (Q i).2.2).length + 1) ≤ 9 * (i + 1)
    omega
theorem batL_y (A : AF) (Q : QF) (i : Nat) (M : List Nat) : M ++ repL A Q i = ((((M ++ [97 + (Q i).1]) ++ dig (Q i).2.1) ++ [61]) ++ dig (Q i).2.2) ++ [oc A Q i] := by
  unfold repL
  simp only [List.append_assoc]
section CL4
variable {h : Hp} {f : Nat → Nat → Int32} {L : List Nat} {c A B : Nat} {b : Bk}
theorem batC_loop : ∀ (d i : Nat) (h : Hp) (f : Nat → Nat → Int32) (c A : Nat), i + d = kN b → CI h f (batL (kA b) (kQ b) i) c A B b → ST (RF 89 18 [.ref 31, .ref (B + 11), .int (nI i)] []) (.int (nI (batL (kA b) (kQ b) (kN b)).length)) h f c B b (batL (kA b) (kQ b) (kN b)) := by
  intro d
  induction d with
  | zero =>
    intro i h f c A hi C
    have e : i = kN b := by omega
    subst e
    have n12 := C.r.q.1
    refine ST.mk ?_ C (Gw.refl h c) (FLc.refl f)
    rw [e89_18]
    simp (disch := omega) only [C.q.f, C.l, C.s.ck, C.r.q.z, length_ok C.s, cond_true, cond_false, bI_ok, bI_er, bV_ok, bV_er, bR_ok, bR_er, bD_ok, bD_er, bF_ok, bF_er, thr_ap, cl_nI, lt_nI, le_nI, eq_nI, m1_lt, nI_m1, m1_nI, nI_lt_m1, add_nI, sub_nI, addm_nI, z_addm, z_subm, mul_nI, fit1_0, fit1_1, fit2_n, HI_wI, HK_wI, HL_wI, HR_wI, ckK_wI, chI_wI, sI_wI, wI_wI, lz0, lz1, lz2, lz3, lz4, lz5, lz6, lz7, lz8, lz9, lz10, lz12, lz13, lz16, lz17, lz20, lz21, lz23, lz26, lz30, lz32, lz35, lz40, lz45, lz48, lz57, lz58, lz59, lz60, lz61, lz63, lz64, lz97, lz99, lz100, lz110, lz111, lz126, lz129, lz132, lz133, lz166, lz169, lz255, lz999, lz1183, lz1800, Nat.reduceAdd, Nat.reduceLT, Nat.reduceEqDiff, Nat.not_lt_zero, Nat.lt_irrefl, ↓reduceIte, Nat.zero_add, Nat.add_zero, ne_eq, not_true_eq_false, not_false_eq_true, reduceCtorEq]
  | succ d ih =>
    intro i h f c A hi C
    have hin : i < kN b := by omega
    have n12 := C.r.q.1
    have hB := C.2.2.1
    have hq := C.r.q.b hin
    have hQ : ∀ i, i < kN b → (kQ b i).2.1 < 1000 ∧ (kQ b i).2.2 < 100 := fun i hi => ⟨(C.r.q.b hi).2.1, (C.r.q.b hi).2.2.2⟩
    have hl := batL_len (A := kA b) hQ i (by omega)
    have l3 := dig_len3 hq.2.1
    have l2 := dig_len2 hq.2.2.2
    have ho := oc_lt (kA b) (kQ b) i
    have key : ∀ (M : List Nat) (g0 : Hp) (f0 : Nat → Nat → Int32) (c0 A0 : Nat), CI g0 f0 M c0 A0 B b → M.length ≤ 100 → batL (kA b) (kQ b) (i + 1) = M ++ repL (kA b) (kQ b) i → ∃ g1 f1 c1 A1 g2 f2 c2 A2 g3 f3 c3 A3 g4 f4 c4 A4 g5 f5 c5 A5 g6 f6 c6 A6 M1 M2 M3 M4 M5,
        CL 81 [.ref 239, .int (nI (97 + (kQ b i).1))] (wI g0 f0) = some (.ok (.ref 239), wI g1 f1) ∧ CI g1 f1 M1 c1 A1 B b ∧
        CL 86 [.ref 239, .int (nI (kQ b i).2.1)] (wI g1 f1) = some (.ok (.ref 239), wI g2 f2) ∧ CI g2 f2 M2 c2 A2 B b ∧
        CL 81 [.ref 239, .int (nI 61)] (wI g2 f2) = some (.ok (.ref 239), wI g3 f3) ∧ CI g3 f3 M3 c3 A3 B b ∧
        CL 86 [.ref 239, .int (nI (kQ b i).2.2)] (wI g3 f3) = some (.ok (.ref 239), wI g4 f4) ∧ CI g4 f4 M4 c4 A4 B b ∧
        CL 27 [.ref B, .int (nI i)] (wI g4 f4) = some (.ok (.int (nI (oc (kA b) (kQ b) i))), wI g4 f4) ∧
        CL 81 [.ref 239, .int (nI (oc (kA b) (kQ b) i))] (wI g4 f4) = some (.ok (.ref 239), wI g5 f5) ∧ CI g5 f5 M5 c5 A5 B b ∧
        RF 89 18 [.ref 31, .ref (B + 11), .int (nI (i + 1))] [] (wI g5 f5) = some (.ok (.int (nI (batL (kA b) (kQ b) (kN b)).length)), wI g6 f6) ∧ CI g6 f6 (batL (kA b) (kQ b) (kN b)) c6 A6 B b ∧ Gw g0 g6 c0 c6 ∧ FLc f0 f6 := by
      intro M g0 f0 c0 A0 C0 hM eM
      obtain ⟨g1, f1, c1, A1, a1, C1, G1, F1⟩ := sC C0 (ch := 97 + (kQ b i).1) (by omega) (by omega)
      obtain ⟨g2, f2, c2, A2, a2, C2, G2, F2⟩ := sI' C1 (v := (kQ b i).2.1) (by omega) (by rw [la1]; omega)
      obtain ⟨g3, f3, c3, A3, a3, C3, G3, F3⟩ := sC C2 (ch := 61) (by decide) (by rw [la2, la1]; omega)
      obtain ⟨g4, f4, c4, A4, a4, C4, G4, F4⟩ := sI' C3 (v := (kQ b i).2.2) (by omega) (by rw [la1, la2, la1]; omega)
      obtain ⟨g5, f5, c5, A5, a5, C5, G5, F5⟩ := sC C4 (ch := oc (kA b) (kQ b) i) (by omega) (by rw [la2, la1, la2, la1]; omega)
      rw [← batL_y, ← eM] at C5
      have hoc := outcome_ok (h := wI g4 f4) C4.q.2.2 C4.r.t C4.r.q hin
      obtain ⟨g6, f6, c6, A6, a6, C6, G6, F6⟩ := ih (i + 1) g5 f5 c5 A5 (by omega) C5
      exact ⟨g1, f1, c1, A1, g2, f2, c2, A2, g3, f3, c3, A3, g4, f4, c4, A4, g5, f5, c5, A5, g6, f6, c6, A6, _, _, _, _, _, a1, C1, a2, C2, a3, C3, a4, C4, hoc, a5, C5, a6, C6, ((((G1.trans G2).trans G3).trans G4).trans G5).trans G6, ((((F1.trans F2).trans F3).trans F4).trans F5).trans F6⟩
    by_cases q : i = 0
    · have hi0 : ¬(0 < i) := by omega
      obtain ⟨g1, f1, c1, A1, g2, f2, c2, A2, g3, f3, c3, A3, g4, f4, c4, A4, g5, f5, c5, A5, g6, f6, c6, A6, M1, M2, M3, M4, M5, a1, C1, a2, C2, a3, C3, a4, C4, hoc, a5, C5, a6, C6, G6, F6⟩ := key (batL (kA b) (kQ b) i) h f c A C (by omega) (by
        show (batL (kA b) (kQ b) i ++ (if i = 0 then [] else [32])) ++ repL (kA b) (kQ b) i = _
        rw [if_pos q, List.append_nil])
      refine ST.mk ?_ C6 G6 F6
      obtain ⟨x1, x2, x3⟩ := C.q.q.r (show i < 12 by omega)
      have y1 := (C.r.q.q hin).1
      have y2 := (C1.r.q.q hin).2.1
      have y3 := (C3.r.q.q hin).2.2
      rw [e89_18]
      simp (disch := omega) only [C.q.f, C.q.q.f, C.q.q.r (show i < 12 by omega), C.l, C.s.ck, C.r.q.z, hin, hi0, y1, letter_ok (show (kQ b i).1 < 1000 by omega), a1, C1.q.f, C1.q.q.f, C1.q.q.r (show i < 12 by omega), C1.s.ck, y2, a2, C2.q.f, C2.l, C2.s.ck, a3, C3.q.f, C3.q.q.f, C3.q.q.r (show i < 12 by omega), C3.s.ck, y3, a4, C4.q.f, C4.s.ck, hoc, a5, a6, cond_true, cond_false, bI_ok, bI_er, bV_ok, bV_er, bR_ok, bR_er, bD_ok, bD_er, bF_ok, bF_er, thr_ap, cl_nI, lt_nI, le_nI, eq_nI, m1_lt, nI_m1, m1_nI, nI_lt_m1, add_nI, sub_nI, addm_nI, z_addm, z_subm, mul_nI, fit1_0, fit1_1, fit2_n, HI_wI, HK_wI, HL_wI, HR_wI, ckK_wI, chI_wI, sI_wI, wI_wI, lz0, lz1, lz2, lz3, lz4, lz5, lz6, lz7, lz8, lz9, lz10, lz12, lz13, lz16, lz17, lz20, lz21, lz23, lz26, lz30, lz32, lz35, lz40, lz45, lz48, lz57, lz58, lz59, lz60, lz61, lz63, lz64, lz97, lz99, lz100, lz110, lz111, lz126, lz129, lz132, lz133, lz166, lz169, lz255, lz999, lz1183, lz1800, Nat.reduceAdd, Nat.reduceLT, Nat.reduceEqDiff, Nat.not_lt_zero, Nat.lt_irrefl, ↓reduceIte, Nat.zero_add, Nat.add_zero, ne_eq, not_true_eq_false, not_false_eq_true, reduceCtorEq]
    · have hi0 : 0 < i := by omega
      obtain ⟨g0, f0, c0, A0, a0, C0, G0, F0⟩ := sC C (ch := 32) (by decide) (by omega)
      obtain ⟨g1, f1, c1, A1, g2, f2, c2, A2, g3, f3, c3, A3, g4, f4, c4, A4, g5, f5, c5, A5, g6, f6, c6, A6, M1, M2, M3, M4, M5, a1, C1, a2, C2, a3, C3, a4, C4, hoc, a5, C5, a6, C6, G6, F6⟩ := key (batL (kA b) (kQ b) i ++ [32]) g0 f0 c0 A0 C0 (by rw [la1]; omega) (by
        show (batL (kA b) (kQ b) i ++ (if i = 0 then [] else [32])) ++ repL (kA b) (kQ b) i = _
        rw [if_neg q])
      refine ST.mk ?_ C6 (G0.trans G6) (F0.trans F6)
      have y1 := (C0.r.q.q hin).1
      have y2 := (C1.r.q.q hin).2.1
      have y3 := (C3.r.q.q hin).2.2
      rw [e89_18]
      simp (disch := omega) only [C.q.f, C.q.q.f, C.l, C.s.ck, C.r.q.z, hin, hi0, a0, C0.q.f, C0.q.q.f, C0.q.q.r (show i < 12 by omega), C0.l, C0.s.ck, y1, letter_ok (show (kQ b i).1 < 1000 by omega), a1, C1.q.f, C1.q.q.f, C1.q.q.r (show i < 12 by omega), C1.s.ck, y2, a2, C2.q.f, C2.l, C2.s.ck, a3, C3.q.f, C3.q.q.f, C3.q.q.r (show i < 12 by omega), C3.s.ck, y3, a4, C4.q.f, C4.s.ck, hoc, a5, a6, cond_true, cond_false, bI_ok, bI_er, bV_ok, bV_er, bR_ok, bR_er, bD_ok, bD_er, bF_ok, bF_er, thr_ap, cl_nI, lt_nI, le_nI, eq_nI, m1_lt, nI_m1, m1_nI, nI_lt_m1, add_nI, sub_nI, addm_nI, z_addm, z_subm, mul_nI, fit1_0, fit1_1, fit2_n, HI_wI, HK_wI, HL_wI, HR_wI, ckK_wI, chI_wI, sI_wI, wI_wI, lz0, lz1, lz2, lz3, lz4, lz5, lz6, lz7, lz8, lz9, lz10, lz12, lz13, lz16, lz17, lz20, lz21, lz23, lz26, lz30, lz32, lz35, lz40, lz45, lz48, lz57, lz58, lz59, lz60, lz61, lz63, lz64, lz97, lz99, lz100, lz110, lz111, lz126, lz129, lz132, lz133, lz166, lz169, lz255, lz999, lz1183, lz1800, Nat.reduceAdd, Nat.reduceLT, Nat.reduceEqDiff, Nat.not_lt_zero, Nat.lt_irrefl, ↓reduceIte, Nat.zero_add, Nat.add_zero, ne_eq, not_true_eq_false, not_false_eq_true, reduceCtorEq]
theorem batC_ok (C : CI h f L c A B b) : ST (CL 89 [.ref 31]) (.int (nI (batL (kA b) (kQ b) (kN b)).length)) h f c B b (batL (kA b) (kQ b) (kN b)) := by
  obtain ⟨g0, f0, c0, A0, a0, C0, G0, F0⟩ := sE C
  obtain ⟨g1, f1, c1, A1, a1, C1, G1, F1⟩ := batC_loop (kN b) 0 g0 f0 c0 A0 (by omega) C0
  refine ST.mk ?_ C1 (G0.trans G1) (F0.trans F1)
  rw [e89]
  simp (disch := omega) only [C.q.f, C.l, C.s.ck, a0, C0.q.f, a1, cond_true, cond_false, bI_ok, bI_er, bV_ok, bV_er, bR_ok, bR_er, bD_ok, bD_er, bF_ok, bF_er, thr_ap, cl_nI, lt_nI, le_nI, eq_nI, m1_lt, nI_m1, m1_nI, nI_lt_m1, add_nI, sub_nI, addm_nI, z_addm, z_subm, mul_nI, fit1_0, fit1_1, fit2_n, HI_wI, HK_wI, HL_wI, HR_wI, ckK_wI, chI_wI, sI_wI, wI_wI, lz0, lz1, lz2, lz3, lz4, lz5, lz6, lz7, lz8, lz9, lz10, lz12, lz13, lz16, lz17, lz20, lz21, lz23, lz26, lz30, lz32, lz35, lz40, lz45, lz48, lz57, lz58, lz59, lz60, lz61, lz63, lz64, lz97, lz99, lz100, lz110, lz111, lz126, lz129, lz132, lz133, lz166, lz169, lz255, lz999, lz1183, lz1800, Nat.reduceAdd, Nat.reduceLT, Nat.reduceEqDiff, Nat.not_lt_zero, Nat.lt_irrefl, ↓reduceIte, Nat.zero_add, Nat.add_zero, ne_eq, not_true_eq_false, not_false_eq_true, reduceCtorEq]
end CL4
