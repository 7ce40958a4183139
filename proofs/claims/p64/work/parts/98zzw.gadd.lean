/-! A BUILDER ANYWHERE: a character, a number, a text; the text that it makes -/
/-- a text: a literal or a made one -/
def StS (h : Hp) (f : Nat → Nat → Int32) (s V : Nat) (L : List Nat) : Prop := (ckS h s = true ∧ HR h s 0 = V ∧ f s 1 = nI 0) ∧ ((HK h V = 102 ∨ HK h V = 203) ∧ HL h V = L.length) ∧ (s < HN h ∧ V < HN h) ∧ L.length ≤ 142 ∧ ∀ i, i < L.length → f V i = nI (L.getD i 0) ∧ L.getD i 0 < 128
section GB2
variable {t p A A' dc ds s V : Nat} {h h' : Hp} {f f' : Nat → Nat → Int32} {L M : List Nat}
theorem StS.ck (T : StS h f s V L) : ckS h s = true := T.1.1
theorem StS.r (T : StS h f s V L) : HR h s 0 = V := T.1.2.1
theorem StS.c (T : StS h f s V L) : f s 1 = nI 0 := T.1.2.2
theorem StS.l (T : StS h f s V L) : HL h V = L.length := T.2.1.2
theorem StS.le (T : StS h f s V L) : L.length ≤ 142 := T.2.2.2.1
theorem StS.kp (T : StS h f s V L) : Nat.blt 0 (HK h s) = true := by
  have h1 : (ckK h s 11 || ckK h s 9) = true := T.1.1
  rw [Bool.or_eq_true] at h1
  rcases h1 with z | z
  · rw [show HK h s = 11 from Nat.eq_of_beq_eq_true z]
    rfl
  · rw [show HK h s = 9 from Nat.eq_of_beq_eq_true z]
    rfl
theorem StS.al (T : StS h f s V L) : Nat.ble 100 (HK h V) = true := by
  rcases T.2.1.1 with z | z <;> rw [z] <;> rfl
theorem StS.mv (T : StS h f s V L) (hn : HN h ≤ HN h') (hk : h'.2.1 s = h.2.1 s ∧ h'.2.1 V = h.2.1 V) (hr : HR h' s 0 = HR h s 0) (hf : f' s 1 = f s 1 ∧ ∀ i, i < L.length → f' V i = f V i) : StS h' f' s V L := by
  have k1 : HK h' s = HK h s := congrArg Prod.fst hk.1
  refine ⟨⟨?_, hr.trans T.r, hf.1.trans T.c⟩, ⟨?_, (congrArg Prod.snd hk.2).trans T.l⟩, ⟨by have := T.2.2.1.1; omega, by have := T.2.2.1.2; omega⟩, T.le, fun i hi => ?_⟩
  · unfold ckS ckK
    rw [k1]
    exact T.1.1
  · rw [show HK h' V = HK h V from congrArg Prod.fst hk.2]
    exact T.2.1.1
  · rw [hf.2 i hi]
    exact T.2.2.2.2 i hi
theorem StS.gt (T : StS h f s V L) (G : GT t h f A h' f' A' dc ds) (hs : s ≠ t ∧ s ≠ A) (hV : V ≠ t ∧ V ≠ A) : StS h' f' s V L := T.mv G.1 ⟨G.2.1 s T.2.2.1.1, G.2.1 V T.2.2.1.2⟩ (G.2.2.1 s T.2.2.1.1 hs.1 0) ⟨G.2.2.2.1 s T.2.2.1.1 hs.1 hs.2 1, fun i _ => G.2.2.2.1 V T.2.2.1.2 hV.1 hV.2 i⟩
theorem gLatin_ok (S : GbS t h f L p A) : CL 76 [.ref t] (wI h f) = some (.ok (.int (nI 1)), wI h f) := by
  rw [e76]
  simp (disch := omega) only [S.ck, S.c0, show ¬(1 = 0) by decide, show fitc 1 (nI 1) = true from rfl, cond_true, cond_false, bI_ok, bI_er, bV_ok, bV_er, bR_ok, bR_er, bD_ok, bD_er, bF_ok, bF_er, thr_ap, cl_nI, lt_nI, le_nI, eq_nI, m1_lt, nI_m1, m1_nI, nI_lt_m1, add_nI, sub_nI, addm_nI, z_addm, z_subm, mul_nI, fit1_0, fit1_1, fit2_n, HI_wI, HK_wI, HL_wI, HR_wI, ckK_wI, chI_wI, sI_wI, wI_wI, lz0, lz1, lz2, lz3, lz4, lz5, lz6, lz7, lz8, lz9, lz10, lz12, lz13, lz16, lz17, lz20, lz21, lz23, lz26, lz30, lz32, lz35, lz40, lz45, lz48, lz57, lz58, lz59, lz60, lz61, lz63, lz64, lz97, lz99, lz100, lz110, lz111, lz126, lz129, lz132, lz133, lz166, lz169, lz255, lz999, lz1183, lz1800, Nat.reduceAdd, Nat.reduceLT, Nat.reduceEqDiff, Nat.not_lt_zero, Nat.lt_irrefl, ↓reduceIte, Nat.zero_add, Nat.add_zero, ne_eq, not_true_eq_false, not_false_eq_true, reduceCtorEq]
theorem gLength_ok (S : GbS t h f L p A) : CL 88 [.ref t] (wI h f) = some (.ok (.int (nI L.length)), wI h f) := by
  rw [e88]
  simp (disch := omega) only [S.ck, cond_true, cond_false, bI_ok, bI_er, bV_ok, bV_er, bR_ok, bR_er, bD_ok, bD_er, bF_ok, bF_er, thr_ap, cl_nI, lt_nI, le_nI, eq_nI, m1_lt, nI_m1, m1_nI, nI_lt_m1, add_nI, sub_nI, addm_nI, z_addm, z_subm, mul_nI, fit1_0, fit1_1, fit2_n, HI_wI, HK_wI, HL_wI, HR_wI, ckK_wI, chI_wI, sI_wI, wI_wI, lz0, lz1, lz2, lz3, lz4, lz5, lz6, lz7, lz8, lz9, lz10, lz12, lz13, lz16, lz17, lz20, lz21, lz23, lz26, lz30, lz32, lz35, lz40, lz45, lz48, lz57, lz58, lz59, lz60, lz61, lz63, lz64, lz97, lz99, lz100, lz110, lz111, lz126, lz129, lz132, lz133, lz166, lz169, lz255, lz999, lz1183, lz1800, Nat.reduceAdd, Nat.reduceLT, Nat.reduceEqDiff, Nat.not_lt_zero, Nat.lt_irrefl, ↓reduceIte, Nat.zero_add, Nat.add_zero, ne_eq, not_true_eq_false, not_false_eq_true, reduceCtorEq]
  rw [e87]
  simp (disch := omega) only [S.ck, S.n, cond_true, cond_false, bI_ok, bI_er, bV_ok, bV_er, bR_ok, bR_er, bD_ok, bD_er, bF_ok, bF_er, thr_ap, cl_nI, lt_nI, le_nI, eq_nI, m1_lt, nI_m1, m1_nI, nI_lt_m1, add_nI, sub_nI, addm_nI, z_addm, z_subm, mul_nI, fit1_0, fit1_1, fit2_n, HI_wI, HK_wI, HL_wI, HR_wI, ckK_wI, chI_wI, sI_wI, wI_wI, lz0, lz1, lz2, lz3, lz4, lz5, lz6, lz7, lz8, lz9, lz10, lz12, lz13, lz16, lz17, lz20, lz21, lz23, lz26, lz30, lz32, lz35, lz40, lz45, lz48, lz57, lz58, lz59, lz60, lz61, lz63, lz64, lz97, lz99, lz100, lz110, lz111, lz126, lz129, lz132, lz133, lz166, lz169, lz255, lz999, lz1183, lz1800, Nat.reduceAdd, Nat.reduceLT, Nat.reduceEqDiff, Nat.not_lt_zero, Nat.lt_irrefl, ↓reduceIte, Nat.zero_add, Nat.add_zero, ne_eq, not_true_eq_false, not_false_eq_true, reduceCtorEq]
theorem gC_ok (S : GbS t h f L p A) {ch : Nat} (hc : ch < 128) (hl : L.length < 142) : ∃ h' f' p' A', CL 81 [.ref t, .int (nI ch)] (wI h f) = some (.ok (.ref t), wI h' f') ∧ GbS t h' f' (L ++ [ch]) p' A' ∧ GT t h f A h' f' A' 1 286 := by
  have hle := S.le
  obtain ⟨h1, f1, p1, A1, k1, S1, k2, k3⟩ := gEns_ok S (m := L.length + 1) (by omega)
  have hle1 := S1.le
  obtain ⟨q1, q2, q3, q4, q5⟩ := S.ps
  obtain ⟨r1, r2, r3, r4, r5⟩ := S1.ps
  obtain ⟨i1, i2⟩ := i2b_nI ch hc
  have e79' : CL 79 [.int (nI ch)] (wI h1 f1) = some (.ok (.int (nI 1)), wI h1 f1) := by
    rw [e79]
    simp (disch := omega) only [show ¬(255 < ch) by omega, show fitc 1 (nI 1) = true from rfl, cond_true, cond_false, bI_ok, bI_er, bV_ok, bV_er, bR_ok, bR_er, bD_ok, bD_er, bF_ok, bF_er, thr_ap, cl_nI, lt_nI, le_nI, eq_nI, m1_lt, nI_m1, m1_nI, nI_lt_m1, add_nI, sub_nI, addm_nI, z_addm, z_subm, mul_nI, fit1_0, fit1_1, fit2_n, HI_wI, HK_wI, HL_wI, HR_wI, ckK_wI, chI_wI, sI_wI, wI_wI, lz0, lz1, lz2, lz3, lz4, lz5, lz6, lz7, lz8, lz9, lz10, lz12, lz13, lz16, lz17, lz20, lz21, lz23, lz26, lz30, lz32, lz35, lz40, lz45, lz48, lz57, lz58, lz59, lz60, lz61, lz63, lz64, lz97, lz99, lz100, lz110, lz111, lz126, lz129, lz132, lz133, lz166, lz169, lz255, lz999, lz1183, lz1800, Nat.reduceAdd, Nat.reduceLT, Nat.reduceEqDiff, Nat.not_lt_zero, Nat.lt_irrefl, ↓reduceIte, Nat.zero_add, Nat.add_zero, ne_eq, not_true_eq_false, not_false_eq_true, reduceCtorEq]
  refine ⟨h1, u2 (u2 f1 t 3 (nI (L.length + 1))) A1 L.length (nI ch), p1, A1, ?_, S1.to ?_ ?_ ?_ (fun i hi => ?_) (fun i hi => ?_), ⟨k3.1, k3.2.1, k3.2.2.1, fun a ha hn hA y => ?_, k3.2.2.2.2⟩⟩
  · rw [e81]
    simp (disch := omega) only [S.ck, cond_true, cond_false, bI_ok, bI_er, bV_ok, bV_er, bR_ok, bR_er, bD_ok, bD_er, bF_ok, bF_er, thr_ap, cl_nI, lt_nI, le_nI, eq_nI, m1_lt, nI_m1, m1_nI, nI_lt_m1, add_nI, sub_nI, addm_nI, z_addm, z_subm, mul_nI, fit1_0, fit1_1, fit2_n, HI_wI, HK_wI, HL_wI, HR_wI, ckK_wI, chI_wI, sI_wI, wI_wI, lz0, lz1, lz2, lz3, lz4, lz5, lz6, lz7, lz8, lz9, lz10, lz12, lz13, lz16, lz17, lz20, lz21, lz23, lz26, lz30, lz32, lz35, lz40, lz45, lz48, lz57, lz58, lz59, lz60, lz61, lz63, lz64, lz97, lz99, lz100, lz110, lz111, lz126, lz129, lz132, lz133, lz166, lz169, lz255, lz999, lz1183, lz1800, Nat.reduceAdd, Nat.reduceLT, Nat.reduceEqDiff, Nat.not_lt_zero, Nat.lt_irrefl, ↓reduceIte, Nat.zero_add, Nat.add_zero, ne_eq, not_true_eq_false, not_false_eq_true, reduceCtorEq]
    rw [e80]
    simp (disch := omega) only [ckK_wI, HR_wI, HK_wI, HL_wI, S.ck, S1.ck, S.n, S1.n, S1.r, k1, gLatin_ok S1, e79', S1.ch (show L.length < p1 by omega), Bool.true_and, Bool.and_true, show (nI ch).toInt8.toInt32 = nI ch from i1, show fitc 3 (nI ch) = true from i2, show ¬(1 = 0) by decide, cond_true, cond_false, bI_ok, bI_er, bV_ok, bV_er, bR_ok, bR_er, bD_ok, bD_er, bF_ok, bF_er, thr_ap, cl_nI, lt_nI, le_nI, eq_nI, m1_lt, nI_m1, m1_nI, nI_lt_m1, add_nI, sub_nI, addm_nI, z_addm, z_subm, mul_nI, fit1_0, fit1_1, fit2_n, HI_wI, HK_wI, HL_wI, HR_wI, ckK_wI, chI_wI, sI_wI, wI_wI, lz0, lz1, lz2, lz3, lz4, lz5, lz6, lz7, lz8, lz9, lz10, lz12, lz13, lz16, lz17, lz20, lz21, lz23, lz26, lz30, lz32, lz35, lz40, lz45, lz48, lz57, lz58, lz59, lz60, lz61, lz63, lz64, lz97, lz99, lz100, lz110, lz111, lz126, lz129, lz132, lz133, lz166, lz169, lz255, lz999, lz1183, lz1800, Nat.reduceAdd, Nat.reduceLT, Nat.reduceEqDiff, Nat.not_lt_zero, Nat.lt_irrefl, ↓reduceIte, Nat.zero_add, Nat.add_zero, ne_eq, not_true_eq_false, not_false_eq_true, reduceCtorEq]
  · rw [w2_ne (by omega), w2_ne (by omega)]
    exact S1.c0
  · rw [w2_ne (by omega), w2_eq, la1]
  · rw [la1]
    exact k2
  · by_cases q : i = L.length
    · rw [q, w2_eq]
      exact ⟨ch, hc, rfl⟩
    · rw [w2_ne (by omega), w2_ne (by omega)]
      exact S1.z i hi
  · rw [la1] at hi
    by_cases q : i = L.length
    · rw [q, w2_eq, getD_last]
    · rw [w2_ne (by omega), w2_ne (by omega), getD_left (by omega)]
      exact S1.x i (by omega)
  · have := k3.2.2.2.2.1
    rw [w2_ne (by omega), w2_ne (by omega)]
    exact k3.2.2.2.1 a ha hn hA y
theorem gI_ok (S : GbS t h f L p A) (K : KoS h) (F : Ko f) {v : Nat} (hv : v < 1073741824) (hl : L.length + 10 ≤ 142) : ∃ h' f' p' A', CL 86 [.ref t, .int (nI v)] (wI h f) = some (.ok (.ref t), wI h' f') ∧ GbS t h' f' (L ++ dig v) p' A' ∧ GT t h f A h' f' A' 1 286 := by
  have hle := S.le
  obtain ⟨s1, s2, s3, s4⟩ := dsz_spec hv
  obtain ⟨h1, f1, p1, A1, k1, S1, k2, k3⟩ := gEns_ok S (m := L.length + dsz v) (by omega)
  have hle1 := S1.le
  obtain ⟨q1, q2, q3, q4, q5⟩ := S.ps
  obtain ⟨r1, r2, r3, r4, r5⟩ := S1.ps
  have hap := k3.2.2.2.2.1
  have hsz := strSize_ok (h := wI h f) hv
  have K1 : KoS h1 := fun a h1' h2' => by
    obtain ⟨z1, z2⟩ := K a h1' h2'
    exact ⟨(k3.2.1 a (by omega)).trans z1, fun i => (k3.2.2.1 a (by omega) (by omega) i).trans (z2 i)⟩
  have F1 : Ko f1 := F.fr (fun a y ha => k3.2.2.2.1 a (by omega) (by omega) (by omega) y)
  obtain ⟨g, g1, g2, g3⟩ := getChars_ok (A := A1) K1 ⟨S1.ka, S1.la⟩ (by omega) (by omega) (by omega) (nI (L.length + dsz v)) v v (L.length + dsz v) f1 .null .null (Nat.le_refl v) hv F1 (by omega) k2
  have e84' : CL 84 [.int (nI v), .int (nI (L.length + dsz v)), .ref A1] (wI h1 f1) = some (.ok (.int (nI L.length)), wI h1 g) := by
    rw [show L.length + dsz v - dsz v = L.length by omega] at g1
    rw [e84]
    simp (disch := omega) only [neg_nI, g1, cond_true, cond_false, bI_ok, bI_er, bV_ok, bV_er, bR_ok, bR_er, bD_ok, bD_er, bF_ok, bF_er, thr_ap, cl_nI, lt_nI, le_nI, eq_nI, m1_lt, nI_m1, m1_nI, nI_lt_m1, add_nI, sub_nI, addm_nI, z_addm, z_subm, mul_nI, fit1_0, fit1_1, fit2_n, HI_wI, HK_wI, HL_wI, HR_wI, ckK_wI, chI_wI, sI_wI, wI_wI, lz0, lz1, lz2, lz3, lz4, lz5, lz6, lz7, lz8, lz9, lz10, lz12, lz13, lz16, lz17, lz20, lz21, lz23, lz26, lz30, lz32, lz35, lz40, lz45, lz48, lz57, lz58, lz59, lz60, lz61, lz63, lz64, lz97, lz99, lz100, lz110, lz111, lz126, lz129, lz132, lz133, lz166, lz169, lz255, lz999, lz1183, lz1800, Nat.reduceAdd, Nat.reduceLT, Nat.reduceEqDiff, Nat.not_lt_zero, Nat.lt_irrefl, ↓reduceIte, Nat.zero_add, Nat.add_zero, ne_eq, not_true_eq_false, not_false_eq_true, reduceCtorEq]
  have hg : ∀ a y, a ≠ A1 → g a y = f1 a y := fun a y q => g3 a y (by omega)
  have hd : (dig v).length = dsz v := digR_len v _
  refine ⟨h1, u2 g t 3 (nI (L.length + dsz v)), p1, A1, ?_, S1.to ?_ ?_ ?_ (fun i hi => ?_) (fun i hi => ?_), ⟨k3.1, k3.2.1, k3.2.2.1, fun a ha hn hA y => ?_, k3.2.2.2.2⟩⟩
  · rw [e86]
    simp (disch := omega) only [S.ck, cond_true, cond_false, bI_ok, bI_er, bV_ok, bV_er, bR_ok, bR_er, bD_ok, bD_er, bF_ok, bF_er, thr_ap, cl_nI, lt_nI, le_nI, eq_nI, m1_lt, nI_m1, m1_nI, nI_lt_m1, add_nI, sub_nI, addm_nI, z_addm, z_subm, mul_nI, fit1_0, fit1_1, fit2_n, HI_wI, HK_wI, HL_wI, HR_wI, ckK_wI, chI_wI, sI_wI, wI_wI, lz0, lz1, lz2, lz3, lz4, lz5, lz6, lz7, lz8, lz9, lz10, lz12, lz13, lz16, lz17, lz20, lz21, lz23, lz26, lz30, lz32, lz35, lz40, lz45, lz48, lz57, lz58, lz59, lz60, lz61, lz63, lz64, lz97, lz99, lz100, lz110, lz111, lz126, lz129, lz132, lz133, lz166, lz169, lz255, lz999, lz1183, lz1800, Nat.reduceAdd, Nat.reduceLT, Nat.reduceEqDiff, Nat.not_lt_zero, Nat.lt_irrefl, ↓reduceIte, Nat.zero_add, Nat.add_zero, ne_eq, not_true_eq_false, not_false_eq_true, reduceCtorEq]
    rw [e85]
    simp (disch := omega) only [ckK_wI, HR_wI, HK_wI, HL_wI, S.ck, S1.ck, S.n, S1.n, S1.r, hsz, k1, gLatin_ok S1, e84', show ¬(1 = 0) by decide, cond_true, cond_false, bI_ok, bI_er, bV_ok, bV_er, bR_ok, bR_er, bD_ok, bD_er, bF_ok, bF_er, thr_ap, cl_nI, lt_nI, le_nI, eq_nI, m1_lt, nI_m1, m1_nI, nI_lt_m1, add_nI, sub_nI, addm_nI, z_addm, z_subm, mul_nI, fit1_0, fit1_1, fit2_n, HI_wI, HK_wI, HL_wI, HR_wI, ckK_wI, chI_wI, sI_wI, wI_wI, lz0, lz1, lz2, lz3, lz4, lz5, lz6, lz7, lz8, lz9, lz10, lz12, lz13, lz16, lz17, lz20, lz21, lz23, lz26, lz30, lz32, lz35, lz40, lz45, lz48, lz57, lz58, lz59, lz60, lz61, lz63, lz64, lz97, lz99, lz100, lz110, lz111, lz126, lz129, lz132, lz133, lz166, lz169, lz255, lz999, lz1183, lz1800, Nat.reduceAdd, Nat.reduceLT, Nat.reduceEqDiff, Nat.not_lt_zero, Nat.lt_irrefl, ↓reduceIte, Nat.zero_add, Nat.add_zero, ne_eq, not_true_eq_false, not_false_eq_true, reduceCtorEq]
  · rw [w2_ne (by omega), hg t 1 (by omega)]
    exact S1.c0
  · rw [w2_eq, la2, hd]
  · rw [la2, hd]
    exact k2
  · rw [w2_ne (by omega)]
    by_cases q : L.length ≤ i ∧ i < L.length + dsz v
    · have e := g2 (L.length + dsz v - 1 - i) (by omega)
      rw [show L.length + dsz v - 1 - (L.length + dsz v - 1 - i) = i by omega] at e
      have : v / 10 ^ (L.length + dsz v - 1 - i) % 10 < 10 := Nat.mod_lt _ (by decide)
      exact ⟨_, by omega, e⟩
    · rw [g3 A1 i (by omega)]
      exact S1.z i hi
  · rw [la2, hd] at hi
    rw [w2_ne (by omega)]
    by_cases q : i < L.length
    · rw [g3 A1 i (by omega), getD_left q]
      exact S1.x i q
    · have e := g2 (L.length + dsz v - 1 - i) (by omega)
      rw [show L.length + dsz v - 1 - (L.length + dsz v - 1 - i) = i by omega] at e
      rw [e, getD_right (by omega)]
      unfold dig
      rw [digR_at v (dsz v) (i - L.length) (by omega), show L.length + dsz v - 1 - i = dsz v - 1 - (i - L.length) by omega]
  · rw [w2_ne (by omega), hg a y (by omega)]
    exact k3.2.2.2.1 a ha hn hA y
theorem sCoder_ok (T : StS h f s V L) : CL 90 [.ref s] (wI h f) = some (.ok (.int (nI 0)), wI h f) := by
  rw [e90]
  simp (disch := omega) only [ckS_wI, T.ck, T.c, show ¬(1 = 0) by decide, show fitc 3 (nI 0) = true from rfl, cond_true, cond_false, bI_ok, bI_er, bV_ok, bV_er, bR_ok, bR_er, bD_ok, bD_er, bF_ok, bF_er, thr_ap, cl_nI, lt_nI, le_nI, eq_nI, m1_lt, nI_m1, m1_nI, nI_lt_m1, add_nI, sub_nI, addm_nI, z_addm, z_subm, mul_nI, fit1_0, fit1_1, fit2_n, HI_wI, HK_wI, HL_wI, HR_wI, ckK_wI, chI_wI, sI_wI, wI_wI, lz0, lz1, lz2, lz3, lz4, lz5, lz6, lz7, lz8, lz9, lz10, lz12, lz13, lz16, lz17, lz20, lz21, lz23, lz26, lz30, lz32, lz35, lz40, lz45, lz48, lz57, lz58, lz59, lz60, lz61, lz63, lz64, lz97, lz99, lz100, lz110, lz111, lz126, lz129, lz132, lz133, lz166, lz169, lz255, lz999, lz1183, lz1800, Nat.reduceAdd, Nat.reduceLT, Nat.reduceEqDiff, Nat.not_lt_zero, Nat.lt_irrefl, ↓reduceIte, Nat.zero_add, Nat.add_zero, ne_eq, not_true_eq_false, not_false_eq_true, reduceCtorEq]
theorem sLen_ok (T : StS h f s V L) : CL 91 [.ref s] (wI h f) = some (.ok (.int (nI L.length)), wI h f) := by
  have := T.le
  rw [e91]
  simp (disch := omega) only [ckS_wI, T.ck, T.r, T.al, T.l, sCoder_ok T, show ∀ n, Int32.ofNat n = nI n from fun _ => rfl, shrG, cond_true, cond_false, bI_ok, bI_er, bV_ok, bV_er, bR_ok, bR_er, bD_ok, bD_er, bF_ok, bF_er, thr_ap, cl_nI, lt_nI, le_nI, eq_nI, m1_lt, nI_m1, m1_nI, nI_lt_m1, add_nI, sub_nI, addm_nI, z_addm, z_subm, mul_nI, fit1_0, fit1_1, fit2_n, HI_wI, HK_wI, HL_wI, HR_wI, ckK_wI, chI_wI, sI_wI, wI_wI, lz0, lz1, lz2, lz3, lz4, lz5, lz6, lz7, lz8, lz9, lz10, lz12, lz13, lz16, lz17, lz20, lz21, lz23, lz26, lz30, lz32, lz35, lz40, lz45, lz48, lz57, lz58, lz59, lz60, lz61, lz63, lz64, lz97, lz99, lz100, lz110, lz111, lz126, lz129, lz132, lz133, lz166, lz169, lz255, lz999, lz1183, lz1800, Nat.reduceAdd, Nat.reduceLT, Nat.reduceEqDiff, Nat.not_lt_zero, Nat.lt_irrefl, ↓reduceIte, Nat.zero_add, Nat.add_zero, ne_eq, not_true_eq_false, not_false_eq_true, reduceCtorEq]
theorem sCh_ok (T : StS h f s V L) (hV : HK h V = 102) {i : Nat} (hi : i < L.length) : CL 164 [.ref s, .int (nI i)] (wI h f) = some (.ok (.int (nI (L.getD i 0))), wI h f) := by
  have hle := T.le
  obtain ⟨hx, hc⟩ := T.2.2.2.2 i hi
  have h162 : CL 162 [.ref s] (wI h f) = some (.ok (.int (nI 1)), wI h f) := by
    rw [e162]
    simp (disch := omega) only [ckS_wI, T.ck, T.c, show ¬(1 = 0) by decide, show fitc 1 (nI 1) = true from rfl, cond_true, cond_false, bI_ok, bI_er, bV_ok, bV_er, bR_ok, bR_er, bD_ok, bD_er, bF_ok, bF_er, thr_ap, cl_nI, lt_nI, le_nI, eq_nI, m1_lt, nI_m1, m1_nI, nI_lt_m1, add_nI, sub_nI, addm_nI, z_addm, z_subm, mul_nI, fit1_0, fit1_1, fit2_n, HI_wI, HK_wI, HL_wI, HR_wI, ckK_wI, chI_wI, sI_wI, wI_wI, lz0, lz1, lz2, lz3, lz4, lz5, lz6, lz7, lz8, lz9, lz10, lz12, lz13, lz16, lz17, lz20, lz21, lz23, lz26, lz30, lz32, lz35, lz40, lz45, lz48, lz57, lz58, lz59, lz60, lz61, lz63, lz64, lz97, lz99, lz100, lz110, lz111, lz126, lz129, lz132, lz133, lz166, lz169, lz255, lz999, lz1183, lz1800, Nat.reduceAdd, Nat.reduceLT, Nat.reduceEqDiff, Nat.not_lt_zero, Nat.lt_irrefl, ↓reduceIte, Nat.zero_add, Nat.add_zero, ne_eq, not_true_eq_false, not_false_eq_true, reduceCtorEq]
  have h131 : CL 131 [.int (nI i), .int (nI L.length)] (wI h f) = some (.ok .null, wI h f) := by
    rw [e131, e130]
    simp (disch := omega) only [neg_nI, hi, cond_true, cond_false, bI_ok, bI_er, bV_ok, bV_er, bR_ok, bR_er, bD_ok, bD_er, bF_ok, bF_er, thr_ap, cl_nI, lt_nI, le_nI, eq_nI, m1_lt, nI_m1, m1_nI, nI_lt_m1, add_nI, sub_nI, addm_nI, z_addm, z_subm, mul_nI, fit1_0, fit1_1, fit2_n, HI_wI, HK_wI, HL_wI, HR_wI, ckK_wI, chI_wI, sI_wI, wI_wI, lz0, lz1, lz2, lz3, lz4, lz5, lz6, lz7, lz8, lz9, lz10, lz12, lz13, lz16, lz17, lz20, lz21, lz23, lz26, lz30, lz32, lz35, lz40, lz45, lz48, lz57, lz58, lz59, lz60, lz61, lz63, lz64, lz97, lz99, lz100, lz110, lz111, lz126, lz129, lz132, lz133, lz166, lz169, lz255, lz999, lz1183, lz1800, Nat.reduceAdd, Nat.reduceLT, Nat.reduceEqDiff, Nat.not_lt_zero, Nat.lt_irrefl, ↓reduceIte, Nat.zero_add, Nat.add_zero, ne_eq, not_true_eq_false, not_false_eq_true, reduceCtorEq]
  have hch : chI h V 102 (nI i) = true := chI_nI hV T.l hi (by omega)
  have ha : nI (L.getD i 0) &&& (255 : Int32) = nI (L.getD i 0) := and255 _ hc
  rw [lz255] at ha
  have h163 : CL 163 [.ref V, .int (nI i)] (wI h f) = some (.ok (.int (nI (L.getD i 0))), wI h f) := by
    rw [e163]
    simp (disch := omega) only [HK_wI, HL_wI, T.al, T.l, show ∀ n, Int32.ofNat n = nI n from fun _ => rfl, h131, hch, hx, ha, i2c_nI, fit2_n, cond_true, cond_false, bI_ok, bI_er, bV_ok, bV_er, bR_ok, bR_er, bD_ok, bD_er, bF_ok, bF_er, thr_ap, cl_nI, lt_nI, le_nI, eq_nI, m1_lt, nI_m1, m1_nI, nI_lt_m1, add_nI, sub_nI, addm_nI, z_addm, z_subm, mul_nI, fit1_0, fit1_1, fit2_n, HI_wI, HK_wI, HL_wI, HR_wI, ckK_wI, chI_wI, sI_wI, wI_wI, lz0, lz1, lz2, lz3, lz4, lz5, lz6, lz7, lz8, lz9, lz10, lz12, lz13, lz16, lz17, lz20, lz21, lz23, lz26, lz30, lz32, lz35, lz40, lz45, lz48, lz57, lz58, lz59, lz60, lz61, lz63, lz64, lz97, lz99, lz100, lz110, lz111, lz126, lz129, lz132, lz133, lz166, lz169, lz255, lz999, lz1183, lz1800, Nat.reduceAdd, Nat.reduceLT, Nat.reduceEqDiff, Nat.not_lt_zero, Nat.lt_irrefl, ↓reduceIte, Nat.zero_add, Nat.add_zero, ne_eq, not_true_eq_false, not_false_eq_true, reduceCtorEq]
  rw [e164]
  simp (disch := omega) only [ckS_wI, HR_wI, T.ck, h162, T.r, h163, fit2_n, show ¬(1 = 0) by decide, cond_true, cond_false, bI_ok, bI_er, bV_ok, bV_er, bR_ok, bR_er, bD_ok, bD_er, bF_ok, bF_er, thr_ap, cl_nI, lt_nI, le_nI, eq_nI, m1_lt, nI_m1, m1_nI, nI_lt_m1, add_nI, sub_nI, addm_nI, z_addm, z_subm, mul_nI, fit1_0, fit1_1, fit2_n, HI_wI, HK_wI, HL_wI, HR_wI, ckK_wI, chI_wI, sI_wI, wI_wI, lz0, lz1, lz2, lz3, lz4, lz5, lz6, lz7, lz8, lz9, lz10, lz12, lz13, lz16, lz17, lz20, lz21, lz23, lz26, lz30, lz32, lz35, lz40, lz45, lz48, lz57, lz58, lz59, lz60, lz61, lz63, lz64, lz97, lz99, lz100, lz110, lz111, lz126, lz129, lz132, lz133, lz166, lz169, lz255, lz999, lz1183, lz1800, Nat.reduceAdd, Nat.reduceLT, Nat.reduceEqDiff, Nat.not_lt_zero, Nat.lt_irrefl, ↓reduceIte, Nat.zero_add, Nat.add_zero, ne_eq, not_true_eq_false, not_false_eq_true, reduceCtorEq]
theorem gS_ok (S : GbS t h f L p A) (T : StS h f s V M) (hs : s ≠ t ∧ s ≠ A) (hV : V ≠ t ∧ V ≠ A) (hl : L.length + M.length ≤ 142) : ∃ h' f' p' A', CL 96 [.ref t, .ref s] (wI h f) = some (.ok (.ref t), wI h' f') ∧ GbS t h' f' (L ++ M) p' A' ∧ GT t h f A h' f' A' 1 286 := by
  have hle := S.le
  obtain ⟨h1, f1, p1, A1, k1, S1, k2, k3⟩ := gEns_ok S (m := L.length + M.length) (by omega)
  have hle1 := S1.le
  obtain ⟨q1, q2, q3, q4, q5⟩ := S.ps
  obtain ⟨r1, r2, r3, r4, r5⟩ := S1.ps
  have hap := k3.2.2.2.2.1
  have tl := T.2.2.1
  have T1 := T.gt k3 hs hV
  have hVA : V ≠ A1 := by omega
  have hlen := sLen_ok T
  have h90 := sCoder_ok T1
  have h92 : CL 92 [.ref t, .ref s] (wI h1 f1) = some (.ok .null, wI h1 f1) := by
    rw [e92]
    simp (disch := omega) only [ckS_wI, S1.ck, T1.ck, h90, S1.c0, show ¬(1 = 0) by decide, cond_true, cond_false, bI_ok, bI_er, bV_ok, bV_er, bR_ok, bR_er, bD_ok, bD_er, bF_ok, bF_er, thr_ap, cl_nI, lt_nI, le_nI, eq_nI, m1_lt, nI_m1, m1_nI, nI_lt_m1, add_nI, sub_nI, addm_nI, z_addm, z_subm, mul_nI, fit1_0, fit1_1, fit2_n, HI_wI, HK_wI, HL_wI, HR_wI, ckK_wI, chI_wI, sI_wI, wI_wI, lz0, lz1, lz2, lz3, lz4, lz5, lz6, lz7, lz8, lz9, lz10, lz12, lz13, lz16, lz17, lz20, lz21, lz23, lz26, lz30, lz32, lz35, lz40, lz45, lz48, lz57, lz58, lz59, lz60, lz61, lz63, lz64, lz97, lz99, lz100, lz110, lz111, lz126, lz129, lz132, lz133, lz166, lz169, lz255, lz999, lz1183, lz1800, Nat.reduceAdd, Nat.reduceLT, Nat.reduceEqDiff, Nat.not_lt_zero, Nat.lt_irrefl, ↓reduceIte, Nat.zero_add, Nat.add_zero, ne_eq, not_true_eq_false, not_false_eq_true, reduceCtorEq]
  have hfit : bfit (wI h1 f1) V 0 M.length = true := by
    unfold bfit
    rw [List.all_eq_true]
    intro i hi
    rw [List.mem_range] at hi
    obtain ⟨v1, v2⟩ := T1.2.2.2.2 i hi
    have e : HI (wI h1 f1) V (0 + i) = nI (M.getD i 0) := by
      rw [HI_wI, Nat.zero_add]
      exact v1
    have h0 : ((-128 : Int32)).toInt = -128 := by decide
    have h1 : ((127 : Int32)).toInt = 127 := by decide
    rw [e, Bool.and_eq_true, decide_eq_true_eq, decide_eq_true_eq, Int32.le_iff_toInt_le, Int32.le_iff_toInt_le, h0, h1, nI_toInt (by omega)]
    omega
  have hsh : nI L.length <<< (nI 0 &&& 31) = nI L.length := shlG (by omega)
  have hcp : cpOK (wI h1 f1) V A1 (nI 0) (nI L.length) (nI M.length) (wgt []) = true := by
    unfold cpOK
    rw [cl_nI (by omega), cl_nI (by omega), cl_nI (by omega), hfit]
    have c1 : ckK (wI h1 f1) A1 102 = true := ck_of S1.ka
    have c2 : (ckK (wI h1 f1) V 102 || ckK (wI h1 f1) V 203) = true := by
      rcases T1.2.1.1 with z | z
      · rw [show ckK (wI h1 f1) V 102 = true from ck_of z]
        rfl
      · rw [show ckK (wI h1 f1) V 203 = true from ck_of z, Bool.or_true]
    have c3 : (0 : Int32) ≤ nI M.length := nI_pos' (by omega)
    have c4 : (0 : Int32) ≤ nI 0 := nI_pos' (by omega)
    have c5 : (0 : Int32) ≤ nI L.length := nI_pos' (by omega)
    rw [c1, c2, HL_wI, HL_wI, T1.l, S1.la, decide_eq_true hVA, decide_eq_true c3, decide_eq_true c4, decide_eq_true c5, show Nat.ble (0 + M.length) M.length = true from Nat.ble_eq.mpr (by omega), show Nat.ble (L.length + M.length) p1 = true from Nat.ble_eq.mpr (by omega)]
    rfl
  have h93 : CL 93 [.ref s, .ref A1, .int (nI L.length), .int (nI 0)] (wI h1 f1) = some (.ok .null, wI h1 (fun b k => if b = A1 ∧ L.length ≤ k ∧ k < L.length + M.length then f1 V (0 + (k - L.length)) else f1 b k)) := by
    rw [e93]
    simp (disch := omega) only [ckS_wI, HK_wI, HL_wI, HR_wI, T1.ck, h90, T1.r, T1.al, T1.l, show ∀ n, Int32.ofNat n = nI n from fun _ => rfl, hsh, hcp, hcpy_wI, cond_true, cond_false, bI_ok, bI_er, bV_ok, bV_er, bR_ok, bR_er, bD_ok, bD_er, bF_ok, bF_er, thr_ap, cl_nI, lt_nI, le_nI, eq_nI, m1_lt, nI_m1, m1_nI, nI_lt_m1, add_nI, sub_nI, addm_nI, z_addm, z_subm, mul_nI, fit1_0, fit1_1, fit2_n, HI_wI, HK_wI, HL_wI, HR_wI, ckK_wI, chI_wI, sI_wI, wI_wI, lz0, lz1, lz2, lz3, lz4, lz5, lz6, lz7, lz8, lz9, lz10, lz12, lz13, lz16, lz17, lz20, lz21, lz23, lz26, lz30, lz32, lz35, lz40, lz45, lz48, lz57, lz58, lz59, lz60, lz61, lz63, lz64, lz97, lz99, lz100, lz110, lz111, lz126, lz129, lz132, lz133, lz166, lz169, lz255, lz999, lz1183, lz1800, Nat.reduceAdd, Nat.reduceLT, Nat.reduceEqDiff, Nat.not_lt_zero, Nat.lt_irrefl, ↓reduceIte, Nat.zero_add, Nat.add_zero, ne_eq, not_true_eq_false, not_false_eq_true, reduceCtorEq]
  have h94 : CL 94 [.ref t, .int (nI L.length), .ref s] (wI h1 f1) = some (.ok .null, wI h1 (fun b k => if b = A1 ∧ L.length ≤ k ∧ k < L.length + M.length then f1 V (0 + (k - L.length)) else f1 b k)) := by
    rw [e94]
    simp (disch := omega) only [ckS_wI, HR_wI, S1.ck, T1.ck, h92, S1.r, S1.c0, h93, cond_true, cond_false, bI_ok, bI_er, bV_ok, bV_er, bR_ok, bR_er, bD_ok, bD_er, bF_ok, bF_er, thr_ap, cl_nI, lt_nI, le_nI, eq_nI, m1_lt, nI_m1, m1_nI, nI_lt_m1, add_nI, sub_nI, addm_nI, z_addm, z_subm, mul_nI, fit1_0, fit1_1, fit2_n, HI_wI, HK_wI, HL_wI, HR_wI, ckK_wI, chI_wI, sI_wI, wI_wI, lz0, lz1, lz2, lz3, lz4, lz5, lz6, lz7, lz8, lz9, lz10, lz12, lz13, lz16, lz17, lz20, lz21, lz23, lz26, lz30, lz32, lz35, lz40, lz45, lz48, lz57, lz58, lz59, lz60, lz61, lz63, lz64, lz97, lz99, lz100, lz110, lz111, lz126, lz129, lz132, lz133, lz166, lz169, lz255, lz999, lz1183, lz1800, Nat.reduceAdd, Nat.reduceLT, Nat.reduceEqDiff, Nat.not_lt_zero, Nat.lt_irrefl, ↓reduceIte, Nat.zero_add, Nat.add_zero, ne_eq, not_true_eq_false, not_false_eq_true, reduceCtorEq]
  have hg : ∀ b k, ¬(b = A1 ∧ L.length ≤ k ∧ k < L.length + M.length) → (fun b k => if b = A1 ∧ L.length ≤ k ∧ k < L.length + M.length then f1 V (0 + (k - L.length)) else f1 b k) b k = f1 b k := fun b k q => if_neg q
  have hgy : ∀ k, L.length ≤ k → k < L.length + M.length → (fun b k => if b = A1 ∧ L.length ≤ k ∧ k < L.length + M.length then f1 V (0 + (k - L.length)) else f1 b k) A1 k = nI (M.getD (k - L.length) 0) ∧ M.getD (k - L.length) 0 < 128 := fun k q1 q2 => by
    obtain ⟨v1, v2⟩ := T1.2.2.2.2 (k - L.length) (by omega)
    refine ⟨(if_pos ⟨rfl, q1, q2⟩).trans ?_, v2⟩
    rw [Nat.zero_add]
    exact v1
  generalize hgg : (fun b k => if b = A1 ∧ L.length ≤ k ∧ k < L.length + M.length then f1 V (0 + (k - L.length)) else f1 b k) = g at *
  have gn : g t 3 = nI L.length := (hg t 3 (by omega)).trans S1.n
  refine ⟨h1, u2 g t 3 (nI (L.length + M.length)), p1, A1, ?_, S1.to ?_ ?_ ?_ (fun i hi => ?_) (fun i hi => ?_), ⟨k3.1, k3.2.1, k3.2.2.1, fun a ha hn hA y => ?_, k3.2.2.2.2⟩⟩
  · rw [e96]
    simp (disch := omega) only [S.ck, cond_true, cond_false, bI_ok, bI_er, bV_ok, bV_er, bR_ok, bR_er, bD_ok, bD_er, bF_ok, bF_er, thr_ap, cl_nI, lt_nI, le_nI, eq_nI, m1_lt, nI_m1, m1_nI, nI_lt_m1, add_nI, sub_nI, addm_nI, z_addm, z_subm, mul_nI, fit1_0, fit1_1, fit2_n, HI_wI, HK_wI, HL_wI, HR_wI, ckK_wI, chI_wI, sI_wI, wI_wI, lz0, lz1, lz2, lz3, lz4, lz5, lz6, lz7, lz8, lz9, lz10, lz12, lz13, lz16, lz17, lz20, lz21, lz23, lz26, lz30, lz32, lz35, lz40, lz45, lz48, lz57, lz58, lz59, lz60, lz61, lz63, lz64, lz97, lz99, lz100, lz110, lz111, lz126, lz129, lz132, lz133, lz166, lz169, lz255, lz999, lz1183, lz1800, Nat.reduceAdd, Nat.reduceLT, Nat.reduceEqDiff, Nat.not_lt_zero, Nat.lt_irrefl, ↓reduceIte, Nat.zero_add, Nat.add_zero, ne_eq, not_true_eq_false, not_false_eq_true, reduceCtorEq]
    rw [e95]
    simp (disch := omega) only [ckK_wI, ckS_wI, HR_wI, HK_wI, HL_wI, S.ck, S1.ck, S.n, S1.n, T.ck, T.kp, hlen, k1, h94, gn, cond_true, cond_false, bI_ok, bI_er, bV_ok, bV_er, bR_ok, bR_er, bD_ok, bD_er, bF_ok, bF_er, thr_ap, cl_nI, lt_nI, le_nI, eq_nI, m1_lt, nI_m1, m1_nI, nI_lt_m1, add_nI, sub_nI, addm_nI, z_addm, z_subm, mul_nI, fit1_0, fit1_1, fit2_n, HI_wI, HK_wI, HL_wI, HR_wI, ckK_wI, chI_wI, sI_wI, wI_wI, lz0, lz1, lz2, lz3, lz4, lz5, lz6, lz7, lz8, lz9, lz10, lz12, lz13, lz16, lz17, lz20, lz21, lz23, lz26, lz30, lz32, lz35, lz40, lz45, lz48, lz57, lz58, lz59, lz60, lz61, lz63, lz64, lz97, lz99, lz100, lz110, lz111, lz126, lz129, lz132, lz133, lz166, lz169, lz255, lz999, lz1183, lz1800, Nat.reduceAdd, Nat.reduceLT, Nat.reduceEqDiff, Nat.not_lt_zero, Nat.lt_irrefl, ↓reduceIte, Nat.zero_add, Nat.add_zero, ne_eq, not_true_eq_false, not_false_eq_true, reduceCtorEq]
  · rw [w2_ne (by omega), hg t 1 (by omega)]
    exact S1.c0
  · rw [w2_eq, la2]
  · rw [la2]
    exact k2
  · rw [w2_ne (by omega)]
    by_cases q : L.length ≤ i ∧ i < L.length + M.length
    · obtain ⟨y1, y2⟩ := hgy i q.1 q.2
      exact ⟨_, y2, y1⟩
    · rw [hg A1 i (by omega)]
      exact S1.z i hi
  · rw [la2] at hi
    rw [w2_ne (by omega)]
    by_cases q : i < L.length
    · rw [hg A1 i (by omega), getD_left q]
      exact S1.x i q
    · rw [(hgy i (by omega) hi).1, getD_right (by omega)]
  · rw [w2_ne (by omega), hg a y (by omega)]
    exact k3.2.2.2.1 a ha hn hA y
end GB2
