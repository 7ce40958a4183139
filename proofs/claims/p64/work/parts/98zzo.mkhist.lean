/-! THE OBJECTS MADE: the history -/
/-- i rows of the history t are made -/
def HsI (h0 h : Hp) (t i : Nat) : Prop := HN h = t + 2 + 17 * i ∧ HC h = HC h0 + 1 + 17 * i ∧ HS h = HS h0 + 8 + 276 * i ∧ HK h t = 4 ∧ HR h t 0 = t + 1 ∧ (HI h t 1 = nI 0 ∧ HI h t 2 = nI 0) ∧ (HK h (t + 1) = 107 ∧ HL h (t + 1) = 8) ∧ (∀ j, j < i → HR h (t + 1) j = t + 2 + 17 * j ∧ BkS h (t + 2 + 17 * j)) ∧ Sm h0 h 0 t
theorem lt_nI8 {i : Nat} (hi : i < 8) : nI i < (8 : Int32) := by
  rw [show (8 : Int32) = nI 8 by decide, lt_nI (by omega) (by decide)]
  exact hi
theorem hsum1 (a i : Nat) : a + 1 + 17 * i + 1 + 16 = a + 1 + 17 * (i + 1) := by omega
theorem hsum2 (a i : Nat) : a + 8 + 276 * i + 5 + 271 = a + 8 + 276 * (i + 1) := by omega
theorem hs_step {h0 h : Hp} {t i : Nat} (hi : i < 8) (I : HsI h0 h t i) : ∃ h', RF 3 25 [.ref t, .int (nI i)] [] h = RF 3 25 [.ref t, .int (nI (i + 1))] [] h' ∧ HsI h0 h' t (i + 1) := by
  obtain ⟨a1, a2, a3, a4, a5, ⟨a6, a6'⟩, ⟨a7, a7'⟩, a8, a9⟩ := I
  obtain ⟨B, hB⟩ : ∃ B, B = t + 2 + 17 * i := ⟨_, rfl⟩
  have hN : HN h = B := a1.trans hB.symm
  have k1 : HK (hnew h 2 5) B = 2 := new_k h 2 5 hN
  have n1 : HN (hnew h 2 5) = B + 1 := by rw [HN_hnew, hN]
  obtain ⟨g, hg⟩ : ∃ g, g = mkK (hnew h 2 5) B := ⟨_, rfl⟩
  have c2 := mkK_ok k1 n1
  have w2 := mkK_w n1
  have s2 := mkK_S k1 n1
  rw [← hg] at c2 w2 s2
  have S0 : Sm h g 0 B := (Sm.new h 2 5 (by omega)).trans (Sm.nw w2 (by omega) (by omega))
  have kg : HK g B = 2 := s2.1
  have kt : HK g (t + 1) = 107 := (S0.hk (by omega) (by omega)).trans a7
  have lt : HL g (t + 1) = 8 := (S0.hl (by omega) (by omega)).trans a7'
  refine ⟨sR g (t + 1) i B, ?_, ?_⟩
  · rw [e3_25, if_pos (lt_nI8 hi), ck_of a4, hN]
    try dsimp only
    rw [ck_of k1, c2, bV_ok]
    try dsimp only
    rw [a5, chI_nI kt lt hi (by decide), ck_of kg]
    simp (disch := omega) only [Bool.and_self, cond_true, cond_false, bI_ok, bI_er, bV_ok, bV_er, bR_ok, bR_er, bD_ok, bD_er, bF_ok, bF_er, thr_ap, cl_nI, lt_nI, le_nI, eq_nI, m1_lt, nI_m1, m1_nI, nI_lt_m1, add_nI, sub_nI, addm_nI, z_addm, z_subm, mul_nI, fit1_0, fit1_1, fit2_n, HI_wI, HK_wI, HL_wI, HR_wI, ckK_wI, chI_wI, sI_wI, wI_wI, lz0, lz1, lz2, lz3, lz4, lz5, lz6, lz7, lz8, lz9, lz10, lz12, lz13, lz16, lz17, lz20, lz21, lz23, lz26, lz30, lz32, lz35, lz40, lz45, lz48, lz57, lz58, lz59, lz60, lz61, lz63, lz64, lz97, lz99, lz100, lz110, lz111, lz126, lz129, lz132, lz133, lz166, lz169, lz255, lz999, lz1183, lz1800, Nat.reduceAdd, Nat.reduceLT, Nat.reduceEqDiff, Nat.not_lt_zero, Nat.lt_irrefl, ↓reduceIte, Nat.zero_add, Nat.add_zero, ne_eq, not_true_eq_false, not_false_eq_true, reduceCtorEq]
  · have S1 : Sm g (sR g (t + 1) i B) (t + 2) (B + 17) := Sm.sR _ _ _ _ (by omega)
    have S2 : Sm h (sR g (t + 1) i B) 0 (t + 1) := (S0.mono (by omega) (by omega)).trans (Sm.sR _ _ _ _ (by omega))
    have S3 : Sm h (sR g (t + 1) i B) (t + 2) B := (S0.mono (by omega) (by omega)).trans (S1.mono (by omega) (by omega))
    have q1 : HN g = HN h + 1 + 16 := w2.1
    have q2 : HC g = HC h + 1 + 16 := w2.2.1
    have q3 : HS g = HS h + 5 + 271 := w2.2.2.1
    refine ⟨?_, ?_, ?_, (S2.hk (by omega) (by omega)).trans a4, (S2.hr (by omega) (by omega) 0).trans a5, ⟨(S2.ii (by omega) (by omega) 1).trans a6, (S2.ii (by omega) (by omega) 2).trans a6'⟩, ⟨kt, lt⟩, fun j hj => ?_, a9.trans (S2.mono (by omega) (by omega))⟩
    · rw [HN_sR]
      omega
    · show HC g = _
      rw [q2, a2]
      exact hsum1 _ _
    · show HS g = _
      rw [q3, a3]
      exact hsum2 _ _
    · by_cases e : j = i
      · subst e
        rw [← hB]
        exact ⟨sR_at _ _ _ _, s2.sm S1 (by omega) (by omega)⟩
      · obtain ⟨x1, x2⟩ := a8 j (by omega)
        exact ⟨(sR_ot _ _ _ _ e).trans ((S0.hr (by omega) (by omega) j).trans x1), x2.sm S3 (by omega) (by omega)⟩
theorem hs_go {h0 : Hp} {t : Nat} : ∀ (d i : Nat) (h : Hp), i + d = 8 → HsI h0 h t i → ∃ h', RF 3 25 [.ref t, .int (nI i)] [] h = some (.ok .null, h') ∧ HsI h0 h' t 8 := by
  intro d
  induction d with
  | zero =>
    intro i h e I
    have e8 : i = 8 := by omega
    subst e8
    refine ⟨h, ?_, I⟩
    rw [e3_25, if_neg (by decide)]
  | succ d ih =>
    intro i h e I
    obtain ⟨h', x, y⟩ := hs_step (by omega) I
    rw [x]
    exact ih (i + 1) h' (by omega) y
theorem sz8 : (decide ((0 : Int32) ≤ (8 : Int32)) && decide ((8 : Int32) ≤ 100)) = true := by decide
theorem nz8 : (8 : Int32).toNatClampNeg = 8 := by decide
theorem mkH_ok {h : Hp} {t : Nat} (hk : HK h t = 4) (hN : HN h = t + 1) : ∃ h', CL 3 [.ref t] h = some (.ok .null, h') ∧ HsI h h' t 8 := by
  have S0 : Sm h (hnew h 107 8) 0 (t + 1) := Sm.new h _ _ (by omega)
  have k1 : HK (hnew h 107 8) t = 4 := (S0.hk (by omega) (by omega)).trans hk
  obtain ⟨g, hg⟩ : ∃ g, g = sI (sI (sR (hnew h 107 8) t 0 (t + 1)) t 1 (nI 0)) t 2 (nI 0) := ⟨_, rfl⟩
  have hI : HsI h g t 0 := by
    rw [hg]
    refine ⟨?_, ?_, ?_, k1, sR_at _ _ _ _, ⟨?_, if_pos ⟨rfl, rfl⟩⟩, ⟨new_k h 107 8 hN, new_l h 107 8 hN⟩, fun j hj => absurd hj (Nat.not_lt_zero j), (S0.mono (by omega) (by omega)).trans ((Sm.sR _ _ _ _ (by omega)).trans ((Sm.sI _ _ _ _ (by omega)).trans (Sm.sI _ _ _ _ (by omega))))⟩
    · rw [HN_sI, HN_sI, HN_sR, HN_hnew, hN]
    · rfl
    · rfl
    · exact (if_neg (by omega)).trans (if_pos ⟨rfl, rfl⟩)
  obtain ⟨h', x, y⟩ := hs_go 8 0 g rfl hI
  refine ⟨h', ?_, y⟩
  rw [e3, ini_ok hk (by decide)]
  try dsimp only
  rw [sz8, nz8, hN, ck_of k1, ckK_sR, ck_of k1, ckK_sI, ckK_sR, ck_of k1]
  simp only [cond_true, lz0]
  rw [← hg]
  exact x

