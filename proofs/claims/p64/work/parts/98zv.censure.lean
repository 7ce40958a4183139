/-! THE CLASS: its line made longer -/
def gf (f : Nat → Nat → Int32) (N A p : Nat) : Nat → Nat → Int32 := fun a k => if a = N then (if k < p then f A k else 0) else f a k
section LN2
variable {h : Hp} {f : Nat → Nat → Int32} {L : List Nat} {c A : Nat}
theorem hnew_k (h : Hp) (kd m a : Nat) (q : a ≠ HN h) : (hnew h kd m).2.1 a = h.2.1 a := if_neg q
theorem hnew_e (h : Hp) (kd m : Nat) : (hnew h kd m).2.1 (HN h) = (kd, m) := if_pos rfl
theorem HN_wI (h : Hp) (f : Nat → Nat → Int32) : HN (wI h f) = HN h := rfl
theorem copyOf_ok (S : LnS h f L c A) (hc : c < 3) : CL 74 [.ref A, .int (nI (capc (c + 1)))] (wI h f) = some (.ok (.ref (HN h)), wI (hnew h 102 (capc (c + 1))) (gf f (HN h) A (capc c))) := by
  have hb := capc_b c (by omega)
  have hs := (capc_s c hc).1
  have hb2 := capc_b (c + 1) (by omega)
  have hA : A ≠ HN h := by have := S.an; omega
  have hal : Nat.ble 100 (HK h A) = true := by rw [S.ka]; rfl
  have hnw : hnew (wI h f) 102 (capc (c + 1)) = wI (hnew h 102 (capc (c + 1))) (u1 f (HN h) (nI 0)) := rfl
  have hK : HK (hnew h 102 (capc (c + 1))) A = 102 := (congrArg Prod.fst (hnew_k h _ _ A hA)).trans S.ka
  have hal2 : Nat.ble 100 (HK (hnew h 102 (capc (c + 1))) A) = true := by rw [hK]; rfl
  have hL : HL (hnew h 102 (capc (c + 1))) A = capc c := (congrArg Prod.snd (hnew_k h _ _ A hA)).trans S.la
  have hKN : HK (hnew h 102 (capc (c + 1))) (HN h) = 102 := congrArg Prod.fst (hnew_e h _ _)
  have hLN : HL (hnew h 102 (capc (c + 1))) (HN h) = capc (c + 1) := congrArg Prod.snd (hnew_e h _ _)
  have hfit : bfit (wI (hnew h 102 (capc (c + 1))) (u1 f (HN h) (nI 0))) A 0 (capc c) = true := by
    unfold bfit
    rw [List.all_eq_true]
    intro i hi
    rw [List.mem_range] at hi
    obtain ⟨v, v1, v2⟩ := S.z i hi
    have e : HI (wI (hnew h 102 (capc (c + 1))) (u1 f (HN h) (nI 0))) A (0 + i) = nI v := by
      rw [HI_wI, Nat.zero_add]
      unfold u1
      rw [if_neg hA]
      exact v2
    have h0 : ((-128 : Int32)).toInt = -128 := by decide
    have h1 : ((127 : Int32)).toInt = 127 := by decide
    rw [e, Bool.and_eq_true, decide_eq_true_eq, decide_eq_true_eq, Int32.le_iff_toInt_le, Int32.le_iff_toInt_le, h0, h1, nI_toInt (by omega)]
    omega
  have hcp : cpOK (wI (hnew h 102 (capc (c + 1))) (u1 f (HN h) (nI 0))) A (HN h) (nI 0) (nI 0) (nI (capc c)) (wgt []) = true := by
    unfold cpOK
    rw [cl_nI (by omega), cl_nI (by omega), hfit]
    have k1 : ckK (wI (hnew h 102 (capc (c + 1))) (u1 f (HN h) (nI 0))) (HN h) 102 = true := ck_of hKN
    have k2 : ckK (wI (hnew h 102 (capc (c + 1))) (u1 f (HN h) (nI 0))) A 102 = true := ck_of hK
    have k3 : (0 : Int32) ≤ nI (capc c) := nI_pos' (by omega)
    have k4 : (0 : Int32) ≤ nI 0 := nI_pos' (by omega)
    rw [k1, k2, HL_wI, HL_wI, hL, hLN, decide_eq_true hA, decide_eq_true k3, decide_eq_true k4, show Nat.ble (0 + capc c) (capc c) = true from Nat.ble_eq.mpr (by omega), show Nat.ble (0 + capc c) (capc (c + 1)) = true from Nat.ble_eq.mpr (by omega)]
    rfl
  have hcy : hcpy (wI (hnew h 102 (capc (c + 1))) (u1 f (HN h) (nI 0))) A 0 (HN h) 0 (capc c) = wI (hnew h 102 (capc (c + 1))) (gf f (HN h) A (capc c)) := by
    rw [hcpy_wI, wI_wI, HI_wI]
    congr 1
    funext a k
    unfold gf u1
    by_cases q1 : a = HN h
    · by_cases q2 : k < capc c
      · rw [if_pos ⟨q1, Nat.zero_le k, by omega⟩, if_neg hA, if_pos q1, if_pos q2]
        congr 1
        omega
      · rw [if_neg (by omega), if_pos q1, if_pos q1, if_neg q2]
        rfl
    · rw [if_neg (fun z => q1 z.1), if_neg q1, if_neg q1]
  have h100 := big3 (n := capc (c + 1)) (by omega)
  rw [Bool.and_eq_true] at h100
  have h100 := h100.2
  rw [e74]
  simp (disch := omega) only [HK_wI, HL_wI, hal, S.la, show ∀ n, Int32.ofNat n = nI n from fun _ => rfl, show ¬(capc (c + 1) = capc c) by omega, h100, Nat.zero_le, decide_true, Bool.true_and, hnw, hal2, hL, show ¬(capc (c + 1) < capc c) by omega, HN_wI, hcp, hcy, cond_true, cond_false, bI_ok, bI_er, bV_ok, bV_er, bR_ok, bR_er, bD_ok, bD_er, bF_ok, bF_er, thr_ap, cl_nI, lt_nI, le_nI, eq_nI, m1_lt, nI_m1, m1_nI, nI_lt_m1, add_nI, sub_nI, addm_nI, z_addm, z_subm, mul_nI, fit1_0, fit1_1, fit2_n, HI_wI, HK_wI, HL_wI, HR_wI, ckK_wI, chI_wI, sI_wI, wI_wI, lz0, lz1, lz2, lz3, lz4, lz5, lz6, lz7, lz8, lz9, lz10, lz12, lz13, lz16, lz17, lz20, lz21, lz23, lz26, lz30, lz32, lz35, lz40, lz45, lz48, lz57, lz58, lz59, lz60, lz61, lz63, lz64, lz97, lz99, lz100, lz110, lz111, lz126, lz129, lz132, lz133, lz166, lz169, lz255, lz999, lz1183, lz1800, Nat.reduceAdd, Nat.reduceLT, Nat.reduceEqDiff, Nat.not_lt_zero, Nat.lt_irrefl, ↓reduceIte, Nat.zero_add, Nat.add_zero, ne_eq, not_true_eq_false, not_false_eq_true, reduceCtorEq]
def gwH (h : Hp) (m : Nat) : Hp := sR (hnew h 102 m) 239 0 (HN h)
theorem grow_S (S : LnS h f L c A) (hc : c < 3) : LnS (gwH h (capc (c + 1))) (gf f (HN h) A (capc c)) L (c + 1) (HN h) ∧ Gw h (gwH h (capc (c + 1))) c (c + 1) ∧ FLc f (gf f (HN h) A (capc c)) := by
  have hn := S.hn
  have hs := (capc_s c hc).1
  have h239 : (239 : Nat) ≠ HN h := by omega
  have gf_o : ∀ a k, a ≠ HN h → gf f (HN h) A (capc c) a k = f a k := fun a k q => if_neg q
  have le := S.le
  have gf_e : ∀ k, gf f (HN h) A (capc c) (HN h) k = if k < capc c then f A k else 0 := fun k => if_pos rfl
  refine ⟨⟨(congrArg Prod.fst (hnew_k h 102 _ 239 h239)).trans S.k, (show u2 (u1 (HR h) (HN h) 0) 239 0 (HN h) 239 0 = HN h from w2_eq _ _ _ _), congrArg Prod.fst (hnew_e h 102 _), congrArg Prod.snd (hnew_e h 102 _), Nat.lt_succ_self _, .inr hn, Nat.le_succ_of_le hn, (gf_o 239 1 h239).trans S.c0, (gf_o 239 3 h239).trans S.n, by omega, by omega, fun i hi => ?_, fun i hi => ?_⟩, ⟨Nat.le_succ _, fun a ha => hnew_k h 102 _ a (by omega), fun a ha i hi => ?_, ?_, ?_⟩, fun a y q1 q2 q3 => gf_o a y (by omega)⟩
  · rw [gf_e]
    by_cases q : i < capc c
    · rw [if_pos q]
      exact S.z i q
    · rw [if_neg q]
      exact ⟨0, by decide, rfl⟩
  · rw [gf_e, if_pos (by omega)]
    exact S.x i hi
  · show u2 (u1 (HR h) (HN h) 0) 239 0 (HN h) a i = HR h a i
    rw [w2_ne hi]
    unfold u1
    rw [if_neg (by omega)]
  · show (HC h + 1) + c = HC h + (c + 1)
    omega
  · show (HS h + capc (c + 1)) + capt c = HS h + capt (c + 1)
    rw [(capc_s c hc).2]
    omega
theorem ens_ok (S : LnS h f L c A) {m : Nat} (hm : m ≤ 142) (h2 : m ≤ 2 * capc c + 2) : ∃ h' f' c' A', CL 75 [.ref 239, .int (nI m)] (wI h f) = some (.ok .null, wI h' f') ∧ LnS h' f' L c' A' ∧ m ≤ capc c' ∧ Gw h h' c c' ∧ FLc f f' := by
  have c3 := S.c3
  have hb := capc_b c c3
  have hck := ck_of S.k
  have hal : Nat.ble 100 (HK h A) = true := by rw [S.ka]; rfl
  by_cases q : m ≤ capc c
  · refine ⟨h, f, c, A, ?_, S, q, Gw.refl h c, FLc.refl f⟩
    have hps := pos_sub (a := m) (b := capc c) (by omega) (by omega)
    rw [lz0] at hps
    rw [e75]
    simp (disch := omega) only [ckK_wI, HR_wI, HK_wI, HL_wI, hck, S.r, hal, S.la, show ∀ n, Int32.ofNat n = nI n from fun _ => rfl, S.c0, shr0, pos_sub, hps, show ¬(capc c < m) by omega, cond_true, cond_false, bI_ok, bI_er, bV_ok, bV_er, bR_ok, bR_er, bD_ok, bD_er, bF_ok, bF_er, thr_ap, cl_nI, lt_nI, le_nI, eq_nI, m1_lt, nI_m1, m1_nI, nI_lt_m1, add_nI, sub_nI, addm_nI, z_addm, z_subm, mul_nI, fit1_0, fit1_1, fit2_n, HI_wI, HK_wI, HL_wI, HR_wI, ckK_wI, chI_wI, sI_wI, wI_wI, lz0, lz1, lz2, lz3, lz4, lz5, lz6, lz7, lz8, lz9, lz10, lz12, lz13, lz16, lz17, lz20, lz21, lz23, lz26, lz30, lz32, lz35, lz40, lz45, lz48, lz57, lz58, lz59, lz60, lz61, lz63, lz64, lz97, lz99, lz100, lz110, lz111, lz126, lz129, lz132, lz133, lz166, lz169, lz255, lz999, lz1183, lz1800, Nat.reduceAdd, Nat.reduceLT, Nat.reduceEqDiff, Nat.not_lt_zero, Nat.lt_irrefl, ↓reduceIte, Nat.zero_add, Nat.add_zero, ne_eq, not_true_eq_false, not_false_eq_true, reduceCtorEq]
  · have hc : c < 3 := by
      by_cases z : c = 3
      · subst z
        exact absurd hm (by show ¬(m ≤ 142); have : ¬(m ≤ 142) := q; exact this)
      · omega
    have hb2 := capc_b (c + 1) (by omega)
    obtain ⟨s1, s2, s3⟩ := grow_S S hc
    have hcap := newCap_ok S hc (m := m) (by omega) h2
    have hcpy := copyOf_ok S hc
    have hs := (capc_s c hc).1
    have hck2 : ckK (hnew h 102 (capc (c + 1))) 239 10 = true := ck_of s1.k
    refine ⟨gwH h (capc (c + 1)), gf f (HN h) A (capc c), c + 1, HN h, ?_, s1, by omega, s2, s3⟩
    rw [e75]
    simp (disch := omega) only [ckK_wI, HR_wI, HK_wI, HL_wI, hck, S.r, hal, S.la, show ∀ n, Int32.ofNat n = nI n from fun _ => rfl, S.c0, shr0, shl0, show 0 < m - capc c by omega, hcap, hcpy, hck2, cond_true, cond_false, bI_ok, bI_er, bV_ok, bV_er, bR_ok, bR_er, bD_ok, bD_er, bF_ok, bF_er, thr_ap, cl_nI, lt_nI, le_nI, eq_nI, m1_lt, nI_m1, m1_nI, nI_lt_m1, add_nI, sub_nI, addm_nI, z_addm, z_subm, mul_nI, fit1_0, fit1_1, fit2_n, HI_wI, HK_wI, HL_wI, HR_wI, ckK_wI, chI_wI, sI_wI, wI_wI, lz0, lz1, lz2, lz3, lz4, lz5, lz6, lz7, lz8, lz9, lz10, lz12, lz13, lz16, lz17, lz20, lz21, lz23, lz26, lz30, lz32, lz35, lz40, lz45, lz48, lz57, lz58, lz59, lz60, lz61, lz63, lz64, lz97, lz99, lz100, lz110, lz111, lz126, lz129, lz132, lz133, lz166, lz169, lz255, lz999, lz1183, lz1800, Nat.reduceAdd, Nat.reduceLT, Nat.reduceEqDiff, Nat.not_lt_zero, Nat.lt_irrefl, ↓reduceIte, Nat.zero_add, Nat.add_zero, ne_eq, not_true_eq_false, not_false_eq_true, reduceCtorEq]
    rfl
end LN2
