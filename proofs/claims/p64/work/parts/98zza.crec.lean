/-! THE CLASS: the line of a record; a character of the line -/
section CL2
variable {h : Hp} {f : Nat → Nat → Int32} {L : List Nat} {c A B : Nat} {b : Bk}
theorem ST.mk {op : Hp → Res} {v : Value} {h : Hp} {f : Nat → Nat → Int32} {c B : Nat} {b : Bk} {M : List Nat} {h' : Hp} {f' : Nat → Nat → Int32} {c' A' : Nat} (k1 : op (wI h f) = some (.ok v, wI h' f')) (k2 : CI h' f' M c' A' B b) (k3 : Gw h h' c c') (k4 : FLc f f') : ST op v h f c B b M := ⟨h', f', c', A', k1, k2, k3, k4⟩
theorem recC_t (C : CI h f L c A B b) {s k : Nat} (hs : s < 3) (hk : k < 1000) (h0 : 0 < kA b s k) : ST (CL 98 [.ref 31, .int (nI (97 + s)), .int (nI k)]) (.int (nI (recL b s k).length)) h f c B b (recL b s k) := by
  have hB := C.2.2.1
  have n30 := C.r.t.n30
  obtain ⟨r, r1, r2, r3, r4⟩ := rqRec_t (h := wI h f) C.q C.r hs hk h0
  have r1 : r < tn f (B + 1) := r1
  have r2 : tk f (B + 1) r = k := r2
  have r3 : ta f (B + 1) s r = kA b s k := r3
  have ha := C.r.t.N.a hs (show r < 30 by omega)
  have ha9 := C.r.t.N.a9 hs (show r < 30 by omega)
  have hd := C.r.t.N.d hs (show r < 30 by omega)
  have hd9 := C.r.t.N.d9 hs (show r < 30 by omega)
  rw [← C.r.t.d hs r1 (by omega), r2] at hd hd9
  rw [r3] at ha ha9
  have l1 := dig_len3 hk
  have l2 := dig_len2 ha9
  have l3 := dig_len hd9
  have l10 : lln 10 = 2 := lws28.2.2.2.2.2.2.2.1
  obtain ⟨g0, f0, c0, A0, a0, C0, G0, F0⟩ := sE C
  obtain ⟨g1, f1, c1, A1, a1, C1, G1, F1⟩ := sC C0 (ch := 97 + s) (by omega) (by decide)
  obtain ⟨g2, f2, c2, A2, a2, C2, G2, F2⟩ := sI' C1 (v := k) (by omega) (by show 1 + 10 ≤ 142; decide)
  obtain ⟨g3, f3, c3, A3, a3, C3, G3, F3⟩ := sC C2 (ch := 61) (by decide) (by rw [la2]; show 1 + (dig k).length < 142; omega)
  have e3 : ((([] ++ [97 + s]) ++ dig k) ++ [61]).length = 1 + (dig k).length + 1 := by rw [la1, la2]; rfl
  obtain ⟨g4, f4, c4, A4, a4, C4, G4, F4⟩ := sI' C3 (v := kA b s k) (by omega) (by omega)
  have e4 : (((([] ++ [97 + s]) ++ dig k) ++ [61]) ++ dig (kA b s k)).length = 1 + (dig k).length + 1 + (dig (kA b s k)).length := by rw [la2, e3]
  obtain ⟨g5, f5, c5, A5, a5, C5, G5, F5⟩ := sS C4 (a := 10) (by decide) (by decide) (by decide) (by omega) (by omega)
  have e5 : ((((([] ++ [97 + s]) ++ dig k) ++ [61]) ++ dig (kA b s k)) ++ lws 10 0 (lln 10)).length = 1 + (dig k).length + 1 + (dig (kA b s k)).length + 2 := by rw [la2, e4, lws_len, l10]
  obtain ⟨g6, f6, c6, A6, a6, C6, G6, F6⟩ := sI' C5 (v := kD b s k) hd9 (by omega)
  have F03 := ((F0.trans F1).trans F2).trans F3
  have F05 := (F03.trans F4).trans F5
  have ha3 : f3 (B + 1 + 3 + s) r = nI (kA b s k) := (F03 _ r (by omega) (by omega) (by omega)).trans ha
  have hd5 : f5 (B + 1 + 7 + s) r = nI (kD b s k) := (F05 _ r (by omega) (by omega) (by omega)).trans hd
  have hlen := length_ok C6.s
  have eL : ((((([] ++ [97 + s]) ++ dig k) ++ [61]) ++ dig (kA b s k)) ++ lws 10 0 (lln 10)) ++ dig (kD b s k) = recL b s k := by
    rw [l10, lws28.2.2.2.2.2.2.2.2, ← List.append_assoc]
    rfl
  rw [eL] at hlen C6
  refine ST.mk ?_ C6 (((((((G0.trans G1).trans G2).trans G3).trans G4).trans G5).trans G6)) (F05.trans F6)
  rw [e98]
  simp (disch := omega) only [C.q.f, C.l, C0.q.f, C0.l, C0.s.ck, C1.q.f, C1.s.ck, C2.s.ck, C3.q.f, C3.s.ck, C4.q.f, C4.l, C4.s.ck, C5.q.f, C5.s.ck, C6.q.f, C6.l, C6.s.ck, C.s.ck, r4, indexOf_t hs, a0, a1, a2, a3, C3.q.t.f, C3.q.t.s hs, C3.q.t.sr hs (show r < 30 by omega), ha3, a4, a5, C5.q.t.f, C5.q.t.s hs, C5.q.t.sr hs (show r < 30 by omega), hd5, a6, hlen, cond_true, cond_false, bI_ok, bI_er, bV_ok, bV_er, bR_ok, bR_er, bD_ok, bD_er, bF_ok, bF_er, thr_ap, cl_nI, lt_nI, le_nI, eq_nI, m1_lt, nI_m1, m1_nI, nI_lt_m1, add_nI, sub_nI, addm_nI, z_addm, z_subm, mul_nI, fit1_0, fit1_1, fit2_n, HI_wI, HK_wI, HL_wI, HR_wI, ckK_wI, chI_wI, sI_wI, wI_wI, lz0, lz1, lz2, lz3, lz4, lz5, lz6, lz7, lz8, lz9, lz10, lz12, lz13, lz16, lz17, lz20, lz21, lz23, lz26, lz30, lz32, lz35, lz40, lz45, lz48, lz57, lz58, lz59, lz60, lz61, lz63, lz64, lz97, lz99, lz100, lz110, lz111, lz126, lz129, lz132, lz133, lz166, lz169, lz255, lz999, lz1183, lz1800, Nat.reduceAdd, Nat.reduceLT, Nat.reduceEqDiff, Nat.not_lt_zero, Nat.lt_irrefl, ↓reduceIte, Nat.zero_add, Nat.add_zero, ne_eq, not_true_eq_false, not_false_eq_true, reduceCtorEq]
theorem recC_f (C : CI h f L c A B b) (x k : Int32) (hx : inr 97 99 x = false ∨ inr 0 999 k = false) : CL 98 [.ref 31, .int x, .int k] (wI h f) = some (.error 1, hthr (wI h f)) := by
  rw [e98, rqRec_f x k hx]
  simp (disch := omega) only [C.q.f, cond_true, cond_false, bI_ok, bI_er, bV_ok, bV_er, bR_ok, bR_er, bD_ok, bD_er, bF_ok, bF_er, thr_ap, cl_nI, lt_nI, le_nI, eq_nI, m1_lt, nI_m1, m1_nI, nI_lt_m1, add_nI, sub_nI, addm_nI, z_addm, z_subm, mul_nI, fit1_0, fit1_1, fit2_n, HI_wI, HK_wI, HL_wI, HR_wI, ckK_wI, chI_wI, sI_wI, wI_wI, lz0, lz1, lz2, lz3, lz4, lz5, lz6, lz7, lz8, lz9, lz10, lz12, lz13, lz16, lz17, lz20, lz21, lz23, lz26, lz30, lz32, lz35, lz40, lz45, lz48, lz57, lz58, lz59, lz60, lz61, lz63, lz64, lz97, lz99, lz100, lz110, lz111, lz126, lz129, lz132, lz133, lz166, lz169, lz255, lz999, lz1183, lz1800, Nat.reduceAdd, Nat.reduceLT, Nat.reduceEqDiff, Nat.not_lt_zero, Nat.lt_irrefl, ↓reduceIte, Nat.zero_add, Nat.add_zero, ne_eq, not_true_eq_false, not_false_eq_true, reduceCtorEq]
theorem recC_n (C : CI h f L c A B b) {s k : Nat} (hs : s < 3) (hk : k < 1000) (h0 : kA b s k = 0) : CL 98 [.ref 31, .int (nI (97 + s)), .int (nI k)] (wI h f) = some (.error 4, hthr (wI h f)) := by
  rw [e98, rqRec_n (h := wI h f) C.q C.r hs hk h0]
  simp (disch := omega) only [C.q.f, cond_true, cond_false, bI_ok, bI_er, bV_ok, bV_er, bR_ok, bR_er, bD_ok, bD_er, bF_ok, bF_er, thr_ap, cl_nI, lt_nI, le_nI, eq_nI, m1_lt, nI_m1, m1_nI, nI_lt_m1, add_nI, sub_nI, addm_nI, z_addm, z_subm, mul_nI, fit1_0, fit1_1, fit2_n, HI_wI, HK_wI, HL_wI, HR_wI, ckK_wI, chI_wI, sI_wI, wI_wI, lz0, lz1, lz2, lz3, lz4, lz5, lz6, lz7, lz8, lz9, lz10, lz12, lz13, lz16, lz17, lz20, lz21, lz23, lz26, lz30, lz32, lz35, lz40, lz45, lz48, lz57, lz58, lz59, lz60, lz61, lz63, lz64, lz97, lz99, lz100, lz110, lz111, lz126, lz129, lz132, lz133, lz166, lz169, lz255, lz999, lz1183, lz1800, Nat.reduceAdd, Nat.reduceLT, Nat.reduceEqDiff, Nat.not_lt_zero, Nat.lt_irrefl, ↓reduceIte, Nat.zero_add, Nat.add_zero, ne_eq, not_true_eq_false, not_false_eq_true, reduceCtorEq]
theorem lineC_t (C : CI h f L c A B b) (H : Lo L) {i : Nat} (hi : i < L.length) : CL 134 [.ref 31, .int (nI i)] (wI h f) = some (.ok (.int (nI (L.getD i 0))), wI h f) := by
  have hle := C.s.le
  have hb := C.s.b
  have hc := H.at hi
  have hch := charC_ok C.s H hi
  rw [e134]
  simp (disch := omega) only [C.q.f, C.l, C.s.ck, neg_nI, length_ok C.s, hi, hch, fit2_n, cond_true, cond_false, bI_ok, bI_er, bV_ok, bV_er, bR_ok, bR_er, bD_ok, bD_er, bF_ok, bF_er, thr_ap, cl_nI, lt_nI, le_nI, eq_nI, m1_lt, nI_m1, m1_nI, nI_lt_m1, add_nI, sub_nI, addm_nI, z_addm, z_subm, mul_nI, fit1_0, fit1_1, fit2_n, HI_wI, HK_wI, HL_wI, HR_wI, ckK_wI, chI_wI, sI_wI, wI_wI, lz0, lz1, lz2, lz3, lz4, lz5, lz6, lz7, lz8, lz9, lz10, lz12, lz13, lz16, lz17, lz20, lz21, lz23, lz26, lz30, lz32, lz35, lz40, lz45, lz48, lz57, lz58, lz59, lz60, lz61, lz63, lz64, lz97, lz99, lz100, lz110, lz111, lz126, lz129, lz132, lz133, lz166, lz169, lz255, lz999, lz1183, lz1800, Nat.reduceAdd, Nat.reduceLT, Nat.reduceEqDiff, Nat.not_lt_zero, Nat.lt_irrefl, ↓reduceIte, Nat.zero_add, Nat.add_zero, ne_eq, not_true_eq_false, not_false_eq_true, reduceCtorEq]
theorem lineC_f (C : CI h f L c A B b) (x : Int32) (hx : inr 0 (L.length - 1) x = false ∨ L.length = 0) : CL 134 [.ref 31, .int x] (wI h f) = some (.error 3, hthr (wI h f)) := by
  have hle := C.s.le
  have hb := C.s.b
  rw [e134]
  by_cases z : x < nI 0
  · simp (disch := omega) only [z, cond_true, cond_false, bI_ok, bI_er, bV_ok, bV_er, bR_ok, bR_er, bD_ok, bD_er, bF_ok, bF_er, thr_ap, cl_nI, lt_nI, le_nI, eq_nI, m1_lt, nI_m1, m1_nI, nI_lt_m1, add_nI, sub_nI, addm_nI, z_addm, z_subm, mul_nI, fit1_0, fit1_1, fit2_n, HI_wI, HK_wI, HL_wI, HR_wI, ckK_wI, chI_wI, sI_wI, wI_wI, lz0, lz1, lz2, lz3, lz4, lz5, lz6, lz7, lz8, lz9, lz10, lz12, lz13, lz16, lz17, lz20, lz21, lz23, lz26, lz30, lz32, lz35, lz40, lz45, lz48, lz57, lz58, lz59, lz60, lz61, lz63, lz64, lz97, lz99, lz100, lz110, lz111, lz126, lz129, lz132, lz133, lz166, lz169, lz255, lz999, lz1183, lz1800, Nat.reduceAdd, Nat.reduceLT, Nat.reduceEqDiff, Nat.not_lt_zero, Nat.lt_irrefl, ↓reduceIte, Nat.zero_add, Nat.add_zero, ne_eq, not_true_eq_false, not_false_eq_true, reduceCtorEq]
  · have hz : ¬(x < nI L.length) := by
      intro q
      rw [Int32.lt_iff_toInt_lt, nI_toInt (by omega)] at z q
      rcases hx with hx | hx
      · rcases inr_f hx with y | ⟨_, y⟩
        · rw [Int32.lt_iff_toInt_lt, nI_toInt (by omega)] at y
          omega
        · rw [Int32.lt_iff_toInt_lt, nI_toInt (by omega)] at y
          omega
      · omega
    simp (disch := omega) only [C.q.f, C.l, C.s.ck, z, length_ok C.s, hz, cond_true, cond_false, bI_ok, bI_er, bV_ok, bV_er, bR_ok, bR_er, bD_ok, bD_er, bF_ok, bF_er, thr_ap, cl_nI, lt_nI, le_nI, eq_nI, m1_lt, nI_m1, m1_nI, nI_lt_m1, add_nI, sub_nI, addm_nI, z_addm, z_subm, mul_nI, fit1_0, fit1_1, fit2_n, HI_wI, HK_wI, HL_wI, HR_wI, ckK_wI, chI_wI, sI_wI, wI_wI, lz0, lz1, lz2, lz3, lz4, lz5, lz6, lz7, lz8, lz9, lz10, lz12, lz13, lz16, lz17, lz20, lz21, lz23, lz26, lz30, lz32, lz35, lz40, lz45, lz48, lz57, lz58, lz59, lz60, lz61, lz63, lz64, lz97, lz99, lz100, lz110, lz111, lz126, lz129, lz132, lz133, lz166, lz169, lz255, lz999, lz1183, lz1800, Nat.reduceAdd, Nat.reduceLT, Nat.reduceEqDiff, Nat.not_lt_zero, Nat.lt_irrefl, ↓reduceIte, Nat.zero_add, Nat.add_zero, ne_eq, not_true_eq_false, not_false_eq_true, reduceCtorEq]
end CL2
