/-! THE CLASS: a number and a word added to its line -/
section LN5
variable {h : Hp} {f : Nat → Nat → Int32} {L : List Nat} {c A : Nat}
theorem FLc.ko {f f' : Nat → Nat → Int32} (H : FLc f f') (F : Ko f) : Ko f' := F.fr (fun a y ha => H a y (by omega) (by omega) (by omega))
theorem KoS.gw {h h' : Hp} {c c' : Nat} (K : KoS h) (G : Gw h h' c c') (hn : 241 ≤ HN h) : KoS h' := fun a h1 h2 => by
  obtain ⟨k1, k2⟩ := K a h1 h2
  exact ⟨(G.k a (by omega)).trans k1, fun i => (G.r a (by omega) i (by omega)).trans (k2 i)⟩
theorem Ko.z {f : Nat → Nat → Int32} (F : Ko f) {a i : Nat} (h1 : 4 ≤ a) (h2 : a < 30) (h3 : a % 2 = 0) (hi : i < lln a) : f (a + 1) i = nI (lch a i) ∧ lch a i < 128 := by
  obtain ⟨hl, hch⟩ := litc_all ((a - 4) / 2) (by omega)
  obtain ⟨c1, c2⟩ := hch i hi
  refine ⟨?_, c2⟩
  rw [F (a + 1) (by omega) (by omega)]
  unfold icT
  rw [if_neg (by omega), if_neg (by omega), if_neg (by omega), if_pos (by omega), if_neg (by omega), show (a + 1 - 5) / 2 = (a - 4) / 2 by omega]
  exact c1
theorem apI_ok (S : LnS h f L c A) (K : KoS h) (F : Ko f) {v : Nat} (hv : v < 1073741824) (hl : L.length + 10 ≤ 142) : ∃ h' f' c' A', CL 86 [.ref 239, .int (nI v)] (wI h f) = some (.ok (.ref 239), wI h' f') ∧ LnS h' f' (L ++ dig v) c' A' ∧ Gw h h' c c' ∧ FLc f f' := by
  have hb := S.b
  have hle := S.le
  obtain ⟨s1, s2, s3, s4⟩ := dsz_spec hv
  obtain ⟨h1, f1, c1, A1, k1, S1, k2, k3, k4⟩ := ens_ok S (m := L.length + dsz v) (by omega) (by omega)
  have hb1 := S1.b
  have h9 := S1.an9
  have hap := S1.ap
  have hsz := strSize_ok (h := wI h f) hv
  obtain ⟨g, g1, g2, g3⟩ := getChars_ok (A := A1) (K.gw k3 S.hn) ⟨S1.ka, S1.la⟩ (by omega) (by omega) (by omega) (nI (L.length + dsz v)) v v (L.length + dsz v) f1 .null .null (Nat.le_refl v) hv (k4.ko F) (by omega) k2
  have e84' : CL 84 [.int (nI v), .int (nI (L.length + dsz v)), .ref A1] (wI h1 f1) = some (.ok (.int (nI L.length)), wI h1 g) := by
    rw [show L.length + dsz v - dsz v = L.length by omega] at g1
    rw [e84]
    simp (disch := omega) only [neg_nI, g1, cond_true, cond_false, bI_ok, bI_er, bV_ok, bV_er, bR_ok, bR_er, bD_ok, bD_er, bF_ok, bF_er, thr_ap, cl_nI, lt_nI, le_nI, eq_nI, m1_lt, nI_m1, m1_nI, nI_lt_m1, add_nI, sub_nI, addm_nI, z_addm, z_subm, mul_nI, fit1_0, fit1_1, fit2_n, HI_wI, HK_wI, HL_wI, HR_wI, ckK_wI, chI_wI, sI_wI, wI_wI, lz0, lz1, lz2, lz3, lz4, lz5, lz6, lz7, lz8, lz9, lz10, lz12, lz13, lz16, lz17, lz20, lz21, lz23, lz26, lz30, lz32, lz35, lz40, lz45, lz48, lz57, lz58, lz59, lz60, lz61, lz63, lz64, lz97, lz99, lz100, lz110, lz111, lz126, lz129, lz132, lz133, lz166, lz169, lz255, lz999, lz1183, lz1800, Nat.reduceAdd, Nat.reduceLT, Nat.reduceEqDiff, Nat.not_lt_zero, Nat.lt_irrefl, ↓reduceIte, Nat.zero_add, Nat.add_zero, ne_eq, not_true_eq_false, not_false_eq_true, reduceCtorEq]
  have hg : ∀ a y, a ≠ A1 → g a y = f1 a y := fun a y q => g3 a y (by omega)
  have hd : (dig v).length = dsz v := digR_len v _
  refine ⟨h1, u2 g 239 3 (nI (L.length + dsz v)), c1, A1, ?_, S1.to ?_ ?_ ?_ (fun i hi => ?_) (fun i hi => ?_), k3, fun a y q1 q2 q3 => ?_⟩
  · rw [e86]
    simp (disch := omega) only [S.ck, cond_true, cond_false, bI_ok, bI_er, bV_ok, bV_er, bR_ok, bR_er, bD_ok, bD_er, bF_ok, bF_er, thr_ap, cl_nI, lt_nI, le_nI, eq_nI, m1_lt, nI_m1, m1_nI, nI_lt_m1, add_nI, sub_nI, addm_nI, z_addm, z_subm, mul_nI, fit1_0, fit1_1, fit2_n, HI_wI, HK_wI, HL_wI, HR_wI, ckK_wI, chI_wI, sI_wI, wI_wI, lz0, lz1, lz2, lz3, lz4, lz5, lz6, lz7, lz8, lz9, lz10, lz12, lz13, lz16, lz17, lz20, lz21, lz23, lz26, lz30, lz32, lz35, lz40, lz45, lz48, lz57, lz58, lz59, lz60, lz61, lz63, lz64, lz97, lz99, lz100, lz110, lz111, lz126, lz129, lz132, lz133, lz166, lz169, lz255, lz999, lz1183, lz1800, Nat.reduceAdd, Nat.reduceLT, Nat.reduceEqDiff, Nat.not_lt_zero, Nat.lt_irrefl, ↓reduceIte, Nat.zero_add, Nat.add_zero, ne_eq, not_true_eq_false, not_false_eq_true, reduceCtorEq]
    rw [e85]
    simp (disch := omega) only [ckK_wI, HR_wI, HK_wI, HL_wI, S.ck, S1.ck, S.n, S1.n, S1.r, hsz, k1, latin_ok S1, e84', show ¬(1 = 0) by decide, cond_true, cond_false, bI_ok, bI_er, bV_ok, bV_er, bR_ok, bR_er, bD_ok, bD_er, bF_ok, bF_er, thr_ap, cl_nI, lt_nI, le_nI, eq_nI, m1_lt, nI_m1, m1_nI, nI_lt_m1, add_nI, sub_nI, addm_nI, z_addm, z_subm, mul_nI, fit1_0, fit1_1, fit2_n, HI_wI, HK_wI, HL_wI, HR_wI, ckK_wI, chI_wI, sI_wI, wI_wI, lz0, lz1, lz2, lz3, lz4, lz5, lz6, lz7, lz8, lz9, lz10, lz12, lz13, lz16, lz17, lz20, lz21, lz23, lz26, lz30, lz32, lz35, lz40, lz45, lz48, lz57, lz58, lz59, lz60, lz61, lz63, lz64, lz97, lz99, lz100, lz110, lz111, lz126, lz129, lz132, lz133, lz166, lz169, lz255, lz999, lz1183, lz1800, Nat.reduceAdd, Nat.reduceLT, Nat.reduceEqDiff, Nat.not_lt_zero, Nat.lt_irrefl, ↓reduceIte, Nat.zero_add, Nat.add_zero, ne_eq, not_true_eq_false, not_false_eq_true, reduceCtorEq]
  · rw [w2_ne (by omega), hg 239 1 (by omega)]
    exact S1.c0
  · rw [w2_eq, la2, hd]
  · rw [la2, hd]
    exact k2
  · rw [w2_ne (by omega)]
    by_cases q : L.length ≤ i ∧ i < L.length + dsz v
    · have e := g2 (L.length + dsz v - 1 - i) (by omega)
      rw [show L.length + dsz v - 1 - (L.length + dsz v - 1 - i) = i by omega] at e
      have : v / 10 ^ (L.length + dsz v - 1 - i) % 10 < 10 := Nat.mod_lt _ (by decide)
      exact ⟨_, by omega, e⟩
    · rw [g3 A1 i (by omega)]
      exact S1.z i hi
  · rw [la2, hd] at hi
    rw [w2_ne (by omega)]
    by_cases q : i < L.length
    · rw [g3 A1 i (by omega), getD_left q]
      exact S1.x i q
    · have e := g2 (L.length + dsz v - 1 - i) (by omega)
      rw [show L.length + dsz v - 1 - (L.length + dsz v - 1 - i) = i by omega] at e
      rw [e, getD_right (by omega)]
      unfold dig
      rw [digR_at v (dsz v) (i - L.length) (by omega), show L.length + dsz v - 1 - i = dsz v - 1 - (i - L.length) by omega]
  · rw [w2_ne (by omega), hg a y (by omega)]
    exact k4 a y q1 q2 q3
theorem lws_at (a : Nat) : ∀ n i k, k < n → (lws a i n).getD k 0 = lch a (i + k)
  | 0, _, k, h => absurd h (Nat.not_lt_zero k)
  | n + 1, i, 0, _ => rfl
  | n + 1, i, k + 1, h => by
    have := lws_at a n (i + 1) k (by omega)
    show (lws a (i + 1) n).getD k 0 = _
    rw [this, show i + 1 + k = i + (k + 1) by omega]
theorem apS_ok (S : LnS h f L c A) (K : KoS h) (F : Ko f) {a : Nat} (h1 : 4 ≤ a) (h2 : a < 30) (h3 : a % 2 = 0) (hl12 : lln a ≤ 12) (hl : L.length + 12 ≤ 142) : ∃ h' f' c' A', CL 96 [.ref 239, .ref a] (wI h f) = some (.ok (.ref 239), wI h' f') ∧ LnS h' f' (L ++ lws a 0 (lln a)) c' A' ∧ Gw h h' c c' ∧ FLc f f' := by
  have hb := S.b
  have hle := S.le
  obtain ⟨h', f1, c1, A1, k1, S1, k2, k3, k4⟩ := ens_ok S (m := L.length + lln a) (by omega) (by omega)
  have hb1 := S1.b
  have h9 := S1.an9
  have hap := S1.ap
  have hn := S1.hn
  have K1 := K.gw k3 S.hn
  have F1 := k4.ko F
  have hlen := strLen_ok K F h1 h2 h3
  obtain ⟨q1, q2⟩ := K a (by omega) h2
  obtain ⟨r1, r2⟩ := K1 a (by omega) h2
  obtain ⟨r3, r4⟩ := K1 (a + 1) (by omega) (by omega)
  have hka : kcT 0 a = (11, 4) := by
    unfold kcT
    rw [if_neg (by omega), if_neg (by omega), if_pos h2, if_pos h3]
  have hkb : kcT 0 (a + 1) = (203, lln a) := by
    unfold kcT lln
    rw [if_neg (by omega), if_neg (by omega), if_pos (by omega), if_neg (by omega), show (a + 1 - 5) / 2 = (a - 4) / 2 by omega]
  have hck0 : ckK h a 11 = true := ck_of (congrArg Prod.fst (q1.trans hka))
  have hkp : Nat.blt 0 (HK h a) = true := by
    rw [show HK h a = 11 from congrArg Prod.fst (q1.trans hka)]
    rfl
  have hck1 : ckK h' a 11 = true := ck_of (congrArg Prod.fst (r1.trans hka))
  have hkk : HK h' (a + 1) = 203 := congrArg Prod.fst (r3.trans hkb)
  have hll : HL h' (a + 1) = lln a := congrArg Prod.snd (r3.trans hkb)
  have hrr : HR h' a 0 = a + 1 := by
    rw [r2]
    unfold rcT
    rw [if_neg (by omega), if_pos h2, if_pos ⟨h3, rfl⟩]
  have hc : f1 a 1 = nI 0 := by
    rw [F1 a (by omega) h2]
    unfold icT
    rw [if_neg (by omega), if_neg (by omega), if_neg (by omega), if_pos h2, if_pos h3]
    rfl
  have hal : Nat.ble 100 (HK h' (a + 1)) = true := by rw [hkk]; rfl
  have h90 : CL 90 [.ref a] (wI h' f1) = some (.ok (.int (nI 0)), wI h' f1) := by
    rw [e90]
    simp (disch := omega) only [ckS_wI, ckS_11 hck1, hck1, hc, show ¬(1 = 0) by decide, show fitc 3 (nI 0) = true from rfl, cond_true, cond_false, bI_ok, bI_er, bV_ok, bV_er, bR_ok, bR_er, bD_ok, bD_er, bF_ok, bF_er, thr_ap, cl_nI, lt_nI, le_nI, eq_nI, m1_lt, nI_m1, m1_nI, nI_lt_m1, add_nI, sub_nI, addm_nI, z_addm, z_subm, mul_nI, fit1_0, fit1_1, fit2_n, HI_wI, HK_wI, HL_wI, HR_wI, ckK_wI, chI_wI, sI_wI, wI_wI, lz0, lz1, lz2, lz3, lz4, lz5, lz6, lz7, lz8, lz9, lz10, lz12, lz13, lz16, lz17, lz20, lz21, lz23, lz26, lz30, lz32, lz35, lz40, lz45, lz48, lz57, lz58, lz59, lz60, lz61, lz63, lz64, lz97, lz99, lz100, lz110, lz111, lz126, lz129, lz132, lz133, lz166, lz169, lz255, lz999, lz1183, lz1800, Nat.reduceAdd, Nat.reduceLT, Nat.reduceEqDiff, Nat.not_lt_zero, Nat.lt_irrefl, ↓reduceIte, Nat.zero_add, Nat.add_zero, ne_eq, not_true_eq_false, not_false_eq_true, reduceCtorEq]
  have h92 : CL 92 [.ref 239, .ref a] (wI h' f1) = some (.ok .null, wI h' f1) := by
    rw [e92]
    simp (disch := omega) only [S1.ck, ckS_wI, ckS_11 hck1, hck1, h90, S1.c0, show ¬(1 = 0) by decide, cond_true, cond_false, bI_ok, bI_er, bV_ok, bV_er, bR_ok, bR_er, bD_ok, bD_er, bF_ok, bF_er, thr_ap, cl_nI, lt_nI, le_nI, eq_nI, m1_lt, nI_m1, m1_nI, nI_lt_m1, add_nI, sub_nI, addm_nI, z_addm, z_subm, mul_nI, fit1_0, fit1_1, fit2_n, HI_wI, HK_wI, HL_wI, HR_wI, ckK_wI, chI_wI, sI_wI, wI_wI, lz0, lz1, lz2, lz3, lz4, lz5, lz6, lz7, lz8, lz9, lz10, lz12, lz13, lz16, lz17, lz20, lz21, lz23, lz26, lz30, lz32, lz35, lz40, lz45, lz48, lz57, lz58, lz59, lz60, lz61, lz63, lz64, lz97, lz99, lz100, lz110, lz111, lz126, lz129, lz132, lz133, lz166, lz169, lz255, lz999, lz1183, lz1800, Nat.reduceAdd, Nat.reduceLT, Nat.reduceEqDiff, Nat.not_lt_zero, Nat.lt_irrefl, ↓reduceIte, Nat.zero_add, Nat.add_zero, ne_eq, not_true_eq_false, not_false_eq_true, reduceCtorEq]
  have hfit : bfit (wI h' f1) (a + 1) 0 (lln a) = true := by
    unfold bfit
    rw [List.all_eq_true]
    intro i hi
    rw [List.mem_range] at hi
    obtain ⟨v1, v2⟩ := F1.z h1 h2 h3 hi
    have e : HI (wI h' f1) (a + 1) (0 + i) = nI (lch a i) := by
      rw [HI_wI, Nat.zero_add]
      exact v1
    have h0 : ((-128 : Int32)).toInt = -128 := by decide
    have h1 : ((127 : Int32)).toInt = 127 := by decide
    rw [e, Bool.and_eq_true, decide_eq_true_eq, decide_eq_true_eq, Int32.le_iff_toInt_le, Int32.le_iff_toInt_le, h0, h1, nI_toInt (by omega)]
    omega
  have hsh : nI L.length <<< (nI 0 &&& 31) = nI L.length := shl0 (by omega)
  have hcp : cpOK (wI h' f1) (a + 1) A1 (nI 0) (nI L.length) (nI (lln a)) (wgt []) = true := by
    unfold cpOK
    rw [cl_nI (by omega), cl_nI (by omega), cl_nI (by omega), hfit]
    have k1 : ckK (wI h' f1) A1 102 = true := ck_of S1.ka
    have k2' : ckK (wI h' f1) (a + 1) 203 = true := ck_of hkk
    have k3 : (0 : Int32) ≤ nI (lln a) := nI_pos' (by omega)
    have k4 : (0 : Int32) ≤ nI 0 := nI_pos' (by omega)
    have k5 : (0 : Int32) ≤ nI L.length := nI_pos' (by omega)
    rw [k1, k2', HL_wI, HL_wI, hll, S1.la, decide_eq_true (show a + 1 ≠ A1 by omega), decide_eq_true k3, decide_eq_true k4, decide_eq_true k5, show Nat.ble (0 + lln a) (lln a) = true from Nat.ble_eq.mpr (by omega), show Nat.ble (L.length + lln a) (capc c1) = true from Nat.ble_eq.mpr (by omega), Bool.or_true]
    rfl
  have h93 : CL 93 [.ref a, .ref A1, .int (nI L.length), .int (nI 0)] (wI h' f1) = some (.ok .null, wI h' (fun b k => if b = A1 ∧ L.length ≤ k ∧ k < L.length + lln a then f1 (a + 1) (0 + (k - L.length)) else f1 b k)) := by
    rw [e93]
    simp (disch := omega) only [HK_wI, HL_wI, HR_wI, ckS_wI, ckS_11 hck1, hck1, h90, hrr, hal, hll, show ∀ n, Int32.ofNat n = nI n from fun _ => rfl, hsh, hcp, hcpy_wI, cond_true, cond_false, bI_ok, bI_er, bV_ok, bV_er, bR_ok, bR_er, bD_ok, bD_er, bF_ok, bF_er, thr_ap, cl_nI, lt_nI, le_nI, eq_nI, m1_lt, nI_m1, m1_nI, nI_lt_m1, add_nI, sub_nI, addm_nI, z_addm, z_subm, mul_nI, fit1_0, fit1_1, fit2_n, HI_wI, HK_wI, HL_wI, HR_wI, ckK_wI, chI_wI, sI_wI, wI_wI, lz0, lz1, lz2, lz3, lz4, lz5, lz6, lz7, lz8, lz9, lz10, lz12, lz13, lz16, lz17, lz20, lz21, lz23, lz26, lz30, lz32, lz35, lz40, lz45, lz48, lz57, lz58, lz59, lz60, lz61, lz63, lz64, lz97, lz99, lz100, lz110, lz111, lz126, lz129, lz132, lz133, lz166, lz169, lz255, lz999, lz1183, lz1800, Nat.reduceAdd, Nat.reduceLT, Nat.reduceEqDiff, Nat.not_lt_zero, Nat.lt_irrefl, ↓reduceIte, Nat.zero_add, Nat.add_zero, ne_eq, not_true_eq_false, not_false_eq_true, reduceCtorEq]
  have h94 : CL 94 [.ref 239, .int (nI L.length), .ref a] (wI h' f1) = some (.ok .null, wI h' (fun b k => if b = A1 ∧ L.length ≤ k ∧ k < L.length + lln a then f1 (a + 1) (0 + (k - L.length)) else f1 b k)) := by
    rw [e94]
    simp (disch := omega) only [HR_wI, S1.ck, ckS_wI, ckS_11 hck1, hck1, h92, S1.r, S1.c0, h93, cond_true, cond_false, bI_ok, bI_er, bV_ok, bV_er, bR_ok, bR_er, bD_ok, bD_er, bF_ok, bF_er, thr_ap, cl_nI, lt_nI, le_nI, eq_nI, m1_lt, nI_m1, m1_nI, nI_lt_m1, add_nI, sub_nI, addm_nI, z_addm, z_subm, mul_nI, fit1_0, fit1_1, fit2_n, HI_wI, HK_wI, HL_wI, HR_wI, ckK_wI, chI_wI, sI_wI, wI_wI, lz0, lz1, lz2, lz3, lz4, lz5, lz6, lz7, lz8, lz9, lz10, lz12, lz13, lz16, lz17, lz20, lz21, lz23, lz26, lz30, lz32, lz35, lz40, lz45, lz48, lz57, lz58, lz59, lz60, lz61, lz63, lz64, lz97, lz99, lz100, lz110, lz111, lz126, lz129, lz132, lz133, lz166, lz169, lz255, lz999, lz1183, lz1800, Nat.reduceAdd, Nat.reduceLT, Nat.reduceEqDiff, Nat.not_lt_zero, Nat.lt_irrefl, ↓reduceIte, Nat.zero_add, Nat.add_zero, ne_eq, not_true_eq_false, not_false_eq_true, reduceCtorEq]
  have hg : ∀ b k, ¬(b = A1 ∧ L.length ≤ k ∧ k < L.length + lln a) → (fun b k => if b = A1 ∧ L.length ≤ k ∧ k < L.length + lln a then f1 (a + 1) (0 + (k - L.length)) else f1 b k) b k = f1 b k := fun b k q => if_neg q
  have hgy : ∀ k, L.length ≤ k → k < L.length + lln a → (fun b k => if b = A1 ∧ L.length ≤ k ∧ k < L.length + lln a then f1 (a + 1) (0 + (k - L.length)) else f1 b k) A1 k = nI (lch a (k - L.length)) ∧ lch a (k - L.length) < 128 := fun k q1 q2 => by
    obtain ⟨v1, v2⟩ := F1.z h1 h2 h3 (i := k - L.length) (by omega)
    refine ⟨(if_pos ⟨rfl, q1, q2⟩).trans ?_, v2⟩
    rw [Nat.zero_add]
    exact v1
  generalize hgg : (fun b k => if b = A1 ∧ L.length ≤ k ∧ k < L.length + lln a then f1 (a + 1) (0 + (k - L.length)) else f1 b k) = g at *
  have hd : (lws a 0 (lln a)).length = lln a := lws_len a _ _
  have gn : g 239 3 = nI L.length := (hg 239 3 (by omega)).trans S1.n
  refine ⟨h', u2 g 239 3 (nI (L.length + lln a)), c1, A1, ?_, S1.to ?_ ?_ ?_ (fun i hi => ?_) (fun i hi => ?_), k3, fun b y z1 z2 z3 => ?_⟩
  · rw [e96]
    simp (disch := omega) only [S.ck, cond_true, cond_false, bI_ok, bI_er, bV_ok, bV_er, bR_ok, bR_er, bD_ok, bD_er, bF_ok, bF_er, thr_ap, cl_nI, lt_nI, le_nI, eq_nI, m1_lt, nI_m1, m1_nI, nI_lt_m1, add_nI, sub_nI, addm_nI, z_addm, z_subm, mul_nI, fit1_0, fit1_1, fit2_n, HI_wI, HK_wI, HL_wI, HR_wI, ckK_wI, chI_wI, sI_wI, wI_wI, lz0, lz1, lz2, lz3, lz4, lz5, lz6, lz7, lz8, lz9, lz10, lz12, lz13, lz16, lz17, lz20, lz21, lz23, lz26, lz30, lz32, lz35, lz40, lz45, lz48, lz57, lz58, lz59, lz60, lz61, lz63, lz64, lz97, lz99, lz100, lz110, lz111, lz126, lz129, lz132, lz133, lz166, lz169, lz255, lz999, lz1183, lz1800, Nat.reduceAdd, Nat.reduceLT, Nat.reduceEqDiff, Nat.not_lt_zero, Nat.lt_irrefl, ↓reduceIte, Nat.zero_add, Nat.add_zero, ne_eq, not_true_eq_false, not_false_eq_true, reduceCtorEq]
    rw [e95]
    simp (disch := omega) only [ckK_wI, HR_wI, HK_wI, HL_wI, S.ck, S1.ck, S.n, S1.n, ckS_wI, ckS_11 hck0, hck0, hkp, hlen, k1, h94, gn, cond_true, cond_false, bI_ok, bI_er, bV_ok, bV_er, bR_ok, bR_er, bD_ok, bD_er, bF_ok, bF_er, thr_ap, cl_nI, lt_nI, le_nI, eq_nI, m1_lt, nI_m1, m1_nI, nI_lt_m1, add_nI, sub_nI, addm_nI, z_addm, z_subm, mul_nI, fit1_0, fit1_1, fit2_n, HI_wI, HK_wI, HL_wI, HR_wI, ckK_wI, chI_wI, sI_wI, wI_wI, lz0, lz1, lz2, lz3, lz4, lz5, lz6, lz7, lz8, lz9, lz10, lz12, lz13, lz16, lz17, lz20, lz21, lz23, lz26, lz30, lz32, lz35, lz40, lz45, lz48, lz57, lz58, lz59, lz60, lz61, lz63, lz64, lz97, lz99, lz100, lz110, lz111, lz126, lz129, lz132, lz133, lz166, lz169, lz255, lz999, lz1183, lz1800, Nat.reduceAdd, Nat.reduceLT, Nat.reduceEqDiff, Nat.not_lt_zero, Nat.lt_irrefl, ↓reduceIte, Nat.zero_add, Nat.add_zero, ne_eq, not_true_eq_false, not_false_eq_true, reduceCtorEq]
  · rw [w2_ne (by omega), hg 239 1 (by omega)]
    exact S1.c0
  · rw [w2_eq, la2, hd]
  · rw [la2, hd]
    exact k2
  · rw [w2_ne (by omega)]
    by_cases q : L.length ≤ i ∧ i < L.length + lln a
    · obtain ⟨y1, y2⟩ := hgy i q.1 q.2
      exact ⟨_, y2, y1⟩
    · rw [hg A1 i (by omega)]
      exact S1.z i hi
  · rw [la2, hd] at hi
    rw [w2_ne (by omega)]
    by_cases q : i < L.length
    · rw [hg A1 i (by omega), getD_left q]
      exact S1.x i q
    · rw [(hgy i (by omega) hi).1, getD_right (by omega), lws_at a _ _ _ (by omega), Nat.zero_add]
  · rw [w2_ne (by omega), hg b y (by omega)]
    exact k4 b y z1 z2 z3
end LN5
