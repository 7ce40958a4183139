/-! A BUILDER ANYWHERE: its text, how it grows -/
def GbS (t : Nat) (h : Hp) (f : Nat → Nat → Int32) (L : List Nat) (p A : Nat) : Prop := (HK h t = 10 ∧ HR h t 0 = A ∧ HK h A = 102 ∧ HL h A = p) ∧ (A < HN h ∧ t < HN h ∧ A ≠ t ∧ 31 ≤ A ∧ 31 ≤ t) ∧ (f t 1 = nI 0 ∧ f t 3 = nI L.length) ∧ (L.length ≤ p ∧ p ≤ 286) ∧ (∀ i, i < p → ∃ v, v < 128 ∧ f A i = nI v) ∧ (∀ i, i < L.length → f A i = nI (L.getD i 0))
/-- what a step of the builder t, its bytes at A, leaves as it was; the room that it takes -/
def GT (t : Nat) (h : Hp) (f : Nat → Nat → Int32) (A : Nat) (h' : Hp) (f' : Nat → Nat → Int32) (A' dc ds : Nat) : Prop := HN h ≤ HN h' ∧ (∀ a, a < HN h → h'.2.1 a = h.2.1 a) ∧ (∀ a, a < HN h → a ≠ t → ∀ i, HR h' a i = HR h a i) ∧ (∀ a, a < HN h → a ≠ t → a ≠ A → ∀ y, f' a y = f a y) ∧ (A' = A ∨ HN h ≤ A') ∧ HC h' ≤ HC h + dc ∧ HS h' ≤ HS h + ds
theorem shG : ∀ n, n < 1000 → (Int32.ofNat n >>> ((0 : Int32) &&& 31)) = Int32.ofNat n ∧ (Int32.ofNat n <<< ((0 : Int32) &&& 31)) = Int32.ofNat n := by decide +kernel
theorem shrG {n : Nat} (h : n < 1000) : nI n >>> (nI 0 &&& 31) = nI n := (shG n h).1
theorem shlG {n : Nat} (h : n < 1000) : nI n <<< (nI 0 &&& 31) = nI n := (shG n h).2
section GB
variable {t p A A' dc ds : Nat} {h h' : Hp} {f f' : Nat → Nat → Int32} {L : List Nat}
theorem GT.rf (t : Nat) (h : Hp) (f : Nat → Nat → Int32) (A : Nat) : GT t h f A h f A 0 0 := ⟨Nat.le_refl _, fun _ _ => rfl, fun _ _ _ _ => rfl, fun _ _ _ _ _ => rfl, Or.inl rfl, Nat.le_refl _, Nat.le_refl _⟩
theorem GT.up (G : GT t h f A h' f' A' dc ds) {dc' ds' : Nat} (h1 : dc ≤ dc') (h2 : ds ≤ ds') : GT t h f A h' f' A' dc' ds' := ⟨G.1, G.2.1, G.2.2.1, G.2.2.2.1, G.2.2.2.2.1, by have := G.2.2.2.2.2.1; omega, by have := G.2.2.2.2.2.2; omega⟩
theorem GT.tr (G : GT t h f A h' f' A' dc ds) {g : Hp} {k : Nat → Nat → Int32} {B dc' ds' : Nat} (K : GT t h' f' A' g k B dc' ds') : GT t h f A g k B (dc + dc') (ds + ds') := by
  obtain ⟨a1, a2, a3, a4, a5, a6, a7⟩ := G
  obtain ⟨b1, b2, b3, b4, b5, b6, b7⟩ := K
  exact ⟨by omega, fun a ha => (b2 a (by omega)).trans (a2 a ha), fun a ha hn i => (b3 a (by omega) hn i).trans (a3 a ha hn i), fun a ha hn hA y => (b4 a (by omega) hn (by omega) y).trans (a4 a ha hn hA y), by omega, by omega, by omega⟩
theorem GbS.ck (S : GbS t h f L p A) : ckK h t 10 = true := ck_of S.1.1
theorem GbS.r (S : GbS t h f L p A) : HR h t 0 = A := S.1.2.1
theorem GbS.ka (S : GbS t h f L p A) : HK h A = 102 := S.1.2.2.1
theorem GbS.la (S : GbS t h f L p A) : HL h A = p := S.1.2.2.2
theorem GbS.ps (S : GbS t h f L p A) : A < HN h ∧ t < HN h ∧ A ≠ t ∧ 31 ≤ A ∧ 31 ≤ t := S.2.1
theorem GbS.c0 (S : GbS t h f L p A) : f t 1 = nI 0 := S.2.2.1.1
theorem GbS.n (S : GbS t h f L p A) : f t 3 = nI L.length := S.2.2.1.2
theorem GbS.le (S : GbS t h f L p A) : L.length ≤ p ∧ p ≤ 286 := S.2.2.2.1
theorem GbS.z (S : GbS t h f L p A) : ∀ i, i < p → ∃ v, v < 128 ∧ f A i = nI v := S.2.2.2.2.1
theorem GbS.x (S : GbS t h f L p A) : ∀ i, i < L.length → f A i = nI (L.getD i 0) := S.2.2.2.2.2
theorem GbS.al (S : GbS t h f L p A) : Nat.ble 100 (HK h A) = true := by rw [S.ka]; rfl
theorem GbS.ch (S : GbS t h f L p A) {i : Nat} (hi : i < p) : chI h A 102 (nI i) = true := chI_nI S.ka S.la hi (by have := S.le; omega)
theorem GbS.to (S : GbS t h f L p A) {f' : Nat → Nat → Int32} {M : List Nat} (h1 : f' t 1 = nI 0) (h3 : f' t 3 = nI M.length) (le : M.length ≤ p) (z : ∀ i, i < p → ∃ v, v < 128 ∧ f' A i = nI v) (x : ∀ i, i < M.length → f' A i = nI (M.getD i 0)) : GbS t h f' M p A := ⟨S.1, S.2.1, ⟨h1, h3⟩, ⟨le, S.le.2⟩, z, x⟩
theorem gLen_ok {d : Nat} (hp : p ≤ 1000) (hd : d ≤ 1000) (h0 : 0 < d) : CL 72 [.int (nI p), .int (nI d), .int (nI (p + 2))] h = some (.ok (.int (nI (p + max d (p + 2)))), h) := by
  rw [e72]
  by_cases q : d < p + 2
  · rw [Nat.max_eq_right (by omega)]
    simp (disch := omega) only [q, pos_nI, big1, show 0 < p + (p + 2) by omega, cond_true, cond_false, bI_ok, bI_er, bV_ok, bV_er, bR_ok, bR_er, bD_ok, bD_er, bF_ok, bF_er, thr_ap, cl_nI, lt_nI, le_nI, eq_nI, m1_lt, nI_m1, m1_nI, nI_lt_m1, add_nI, sub_nI, addm_nI, z_addm, z_subm, mul_nI, fit1_0, fit1_1, fit2_n, HI_wI, HK_wI, HL_wI, HR_wI, ckK_wI, chI_wI, sI_wI, wI_wI, lz0, lz1, lz2, lz3, lz4, lz5, lz6, lz7, lz8, lz9, lz10, lz12, lz13, lz16, lz17, lz20, lz21, lz23, lz26, lz30, lz32, lz35, lz40, lz45, lz48, lz57, lz58, lz59, lz60, lz61, lz63, lz64, lz97, lz99, lz100, lz110, lz111, lz126, lz129, lz132, lz133, lz166, lz169, lz255, lz999, lz1183, lz1800, Nat.reduceAdd, Nat.reduceLT, Nat.reduceEqDiff, Nat.not_lt_zero, Nat.lt_irrefl, ↓reduceIte, Nat.zero_add, Nat.add_zero, ne_eq, not_true_eq_false, not_false_eq_true, reduceCtorEq]
  · rw [Nat.max_eq_left (by omega)]
    simp (disch := omega) only [q, pos_nI, big1, show 0 < p + d by omega, cond_true, cond_false, bI_ok, bI_er, bV_ok, bV_er, bR_ok, bR_er, bD_ok, bD_er, bF_ok, bF_er, thr_ap, cl_nI, lt_nI, le_nI, eq_nI, m1_lt, nI_m1, m1_nI, nI_lt_m1, add_nI, sub_nI, addm_nI, z_addm, z_subm, mul_nI, fit1_0, fit1_1, fit2_n, HI_wI, HK_wI, HL_wI, HR_wI, ckK_wI, chI_wI, sI_wI, wI_wI, lz0, lz1, lz2, lz3, lz4, lz5, lz6, lz7, lz8, lz9, lz10, lz12, lz13, lz16, lz17, lz20, lz21, lz23, lz26, lz30, lz32, lz35, lz40, lz45, lz48, lz57, lz58, lz59, lz60, lz61, lz63, lz64, lz97, lz99, lz100, lz110, lz111, lz126, lz129, lz132, lz133, lz166, lz169, lz255, lz999, lz1183, lz1800, Nat.reduceAdd, Nat.reduceLT, Nat.reduceEqDiff, Nat.not_lt_zero, Nat.lt_irrefl, ↓reduceIte, Nat.zero_add, Nat.add_zero, ne_eq, not_true_eq_false, not_false_eq_true, reduceCtorEq]
theorem gCap_ok (S : GbS t h f L p A) {m : Nat} (h1 : p < m) (h2 : m ≤ 142) : CL 73 [.ref t, .int (nI m)] (wI h f) = some (.ok (.int (nI (max m (2 * p + 2)))), wI h f) := by
  have hle := S.le
  have hck := S.ck
  have hn := gLen_ok (h := wI h f) (p := p) (d := m - p) (by omega) (by omega) (by omega)
  rw [show p + max (m - p) (p + 2) = max m (2 * p + 2) by omega] at hn
  have hal := S.al
  have e2 : ((2 : Int32) <<< (nI 0 &&& 31)) = nI 2 := by decide
  rw [lz2] at e2
  have hM : max m (2 * p + 2) < 1000 := by omega
  rw [e73]
  generalize max m (2 * p + 2) = M at *
  simp (disch := omega) only [ckK_wI, HR_wI, HK_wI, HL_wI, hck, S.r, hal, S.la, show ∀ n, Int32.ofNat n = nI n from fun _ => rfl, S.c0, shlG, shrG, e2, hn, big2, cond_true, cond_false, bI_ok, bI_er, bV_ok, bV_er, bR_ok, bR_er, bD_ok, bD_er, bF_ok, bF_er, thr_ap, cl_nI, lt_nI, le_nI, eq_nI, m1_lt, nI_m1, m1_nI, nI_lt_m1, add_nI, sub_nI, addm_nI, z_addm, z_subm, mul_nI, fit1_0, fit1_1, fit2_n, HI_wI, HK_wI, HL_wI, HR_wI, ckK_wI, chI_wI, sI_wI, wI_wI, lz0, lz1, lz2, lz3, lz4, lz5, lz6, lz7, lz8, lz9, lz10, lz12, lz13, lz16, lz17, lz20, lz21, lz23, lz26, lz30, lz32, lz35, lz40, lz45, lz48, lz57, lz58, lz59, lz60, lz61, lz63, lz64, lz97, lz99, lz100, lz110, lz111, lz126, lz129, lz132, lz133, lz166, lz169, lz255, lz999, lz1183, lz1800, Nat.reduceAdd, Nat.reduceLT, Nat.reduceEqDiff, Nat.not_lt_zero, Nat.lt_irrefl, ↓reduceIte, Nat.zero_add, Nat.add_zero, ne_eq, not_true_eq_false, not_false_eq_true, reduceCtorEq]
/-- bytes that fit, of a builder's array -/
theorem gfit (S : GbS t h f L p A) {g : Hp} {k : Nat → Nat → Int32} (hk : ∀ i, i < p → k A i = f A i) {n : Nat} (hn : n ≤ p) : bfit (wI g k) A 0 n = true := by
  unfold bfit
  rw [List.all_eq_true]
  intro i hi
  rw [List.mem_range] at hi
  obtain ⟨v, v1, v2⟩ := S.z i (by omega)
  have e : HI (wI g k) A (0 + i) = nI v := by
    rw [HI_wI, Nat.zero_add, hk i (by omega)]
    exact v2
  have h0 : ((-128 : Int32)).toInt = -128 := by decide
  have h1 : ((127 : Int32)).toInt = 127 := by decide
  rw [e, Bool.and_eq_true, decide_eq_true_eq, decide_eq_true_eq, Int32.le_iff_toInt_le, Int32.le_iff_toInt_le, h0, h1, nI_toInt (by omega)]
  omega
theorem gCopy_ok (S : GbS t h f L p A) {q : Nat} (hq : p < q) (hq2 : q ≤ 1000) : CL 74 [.ref A, .int (nI q)] (wI h f) = some (.ok (.ref (HN h)), wI (hnew h 102 q) (gf f (HN h) A p)) := by
  have hle := S.le
  have hA : A ≠ HN h := by have := S.ps; omega
  have hal := S.al
  have hnw : hnew (wI h f) 102 q = wI (hnew h 102 q) (u1 f (HN h) (nI 0)) := rfl
  have hK : HK (hnew h 102 q) A = 102 := (congrArg Prod.fst (hnew_k h _ _ A hA)).trans S.ka
  have hal2 : Nat.ble 100 (HK (hnew h 102 q) A) = true := by rw [hK]; rfl
  have hL : HL (hnew h 102 q) A = p := (congrArg Prod.snd (hnew_k h _ _ A hA)).trans S.la
  have hKN : HK (hnew h 102 q) (HN h) = 102 := congrArg Prod.fst (hnew_e h _ _)
  have hLN : HL (hnew h 102 q) (HN h) = q := congrArg Prod.snd (hnew_e h _ _)
  have hfit : bfit (wI (hnew h 102 q) (u1 f (HN h) (nI 0))) A 0 p = true := gfit S (fun i _ => by unfold u1; rw [if_neg hA]) (Nat.le_refl p)
  have hcp : cpOK (wI (hnew h 102 q) (u1 f (HN h) (nI 0))) A (HN h) (nI 0) (nI 0) (nI p) (wgt []) = true := by
    unfold cpOK
    rw [cl_nI (by omega), cl_nI (by omega), hfit]
    have k1 : ckK (wI (hnew h 102 q) (u1 f (HN h) (nI 0))) (HN h) 102 = true := ck_of hKN
    have k2 : ckK (wI (hnew h 102 q) (u1 f (HN h) (nI 0))) A 102 = true := ck_of hK
    have k3 : (0 : Int32) ≤ nI p := nI_pos' (by omega)
    have k4 : (0 : Int32) ≤ nI 0 := nI_pos' (by omega)
    rw [k1, k2, HL_wI, HL_wI, hL, hLN, decide_eq_true hA, decide_eq_true k3, decide_eq_true k4, show Nat.ble (0 + p) p = true from Nat.ble_eq.mpr (by omega), show Nat.ble (0 + p) q = true from Nat.ble_eq.mpr (by omega)]
    rfl
  have hcy : hcpy (wI (hnew h 102 q) (u1 f (HN h) (nI 0))) A 0 (HN h) 0 p = wI (hnew h 102 q) (gf f (HN h) A p) := by
    rw [hcpy_wI, wI_wI, HI_wI]
    congr 1
    funext a k
    unfold gf u1
    by_cases q1 : a = HN h
    · by_cases q2 : k < p
      · rw [if_pos ⟨q1, Nat.zero_le k, by omega⟩, if_neg hA, if_pos q1, if_pos q2]
        congr 1
        omega
      · rw [if_neg (by omega), if_pos q1, if_pos q1, if_neg q2]
        rfl
    · rw [if_neg (fun z => q1 z.1), if_neg q1, if_neg q1]
  have h100 := big3 (n := q) (by omega)
  rw [Bool.and_eq_true] at h100
  have h100 := h100.2
  rw [e74]
  simp (disch := omega) only [HK_wI, HL_wI, hal, S.la, show ∀ n, Int32.ofNat n = nI n from fun _ => rfl, show ¬(q = p) by omega, h100, Nat.zero_le, decide_true, Bool.true_and, hnw, hal2, hL, show ¬(q < p) by omega, HN_wI, hcp, hcy, cond_true, cond_false, bI_ok, bI_er, bV_ok, bV_er, bR_ok, bR_er, bD_ok, bD_er, bF_ok, bF_er, thr_ap, cl_nI, lt_nI, le_nI, eq_nI, m1_lt, nI_m1, m1_nI, nI_lt_m1, add_nI, sub_nI, addm_nI, z_addm, z_subm, mul_nI, fit1_0, fit1_1, fit2_n, HI_wI, HK_wI, HL_wI, HR_wI, ckK_wI, chI_wI, sI_wI, wI_wI, lz0, lz1, lz2, lz3, lz4, lz5, lz6, lz7, lz8, lz9, lz10, lz12, lz13, lz16, lz17, lz20, lz21, lz23, lz26, lz30, lz32, lz35, lz40, lz45, lz48, lz57, lz58, lz59, lz60, lz61, lz63, lz64, lz97, lz99, lz100, lz110, lz111, lz126, lz129, lz132, lz133, lz166, lz169, lz255, lz999, lz1183, lz1800, Nat.reduceAdd, Nat.reduceLT, Nat.reduceEqDiff, Nat.not_lt_zero, Nat.lt_irrefl, ↓reduceIte, Nat.zero_add, Nat.add_zero, ne_eq, not_true_eq_false, not_false_eq_true, reduceCtorEq]
def gwG (t : Nat) (h : Hp) (m : Nat) : Hp := sR (hnew h 102 m) t 0 (HN h)
theorem gGrow_S (S : GbS t h f L p A) {q : Nat} (hq : p < q) (hq2 : q ≤ 286) : GbS t (gwG t h q) (gf f (HN h) A p) L q (HN h) ∧ GT t h f A (gwG t h q) (gf f (HN h) A p) (HN h) 1 286 := by
  obtain ⟨p1, p2, p3, p4, p5⟩ := S.ps
  have htn : t ≠ HN h := by omega
  have gf_o : ∀ a k, a ≠ HN h → gf f (HN h) A p a k = f a k := fun a k q => if_neg q
  have le := S.le
  have gf_e : ∀ k, gf f (HN h) A p (HN h) k = if k < p then f A k else 0 := fun k => if_pos rfl
  refine ⟨⟨⟨(congrArg Prod.fst (hnew_k h 102 _ t htn)).trans S.1.1, (show u2 (u1 (HR h) (HN h) 0) t 0 (HN h) t 0 = HN h from w2_eq _ _ _ _), congrArg Prod.fst (hnew_e h 102 _), congrArg Prod.snd (hnew_e h 102 _)⟩, ⟨Nat.lt_succ_self _, Nat.lt_succ_of_lt p2, fun z => htn z.symm, by omega, p5⟩, ⟨(gf_o t 1 htn).trans S.c0, (gf_o t 3 htn).trans S.n⟩, ⟨by omega, hq2⟩, fun i hi => ?_, fun i hi => ?_⟩, ⟨Nat.le_succ _, fun a ha => hnew_k h 102 _ a (by omega), fun a ha hn i => ?_, fun a ha hn hA y => gf_o a y (by omega), Or.inr (Nat.le_refl _), Nat.le_refl _, ?_⟩⟩
  · rw [gf_e]
    by_cases q : i < p
    · rw [if_pos q]
      exact S.z i q
    · rw [if_neg q]
      exact ⟨0, by decide, rfl⟩
  · rw [gf_e, if_pos (by omega)]
    exact S.x i hi
  · show u2 (u1 (HR h) (HN h) 0) t 0 (HN h) a i = HR h a i
    rw [w2_ne (fun z => hn z.1)]
    unfold u1
    rw [if_neg (by omega)]
  · show HS h + q ≤ HS h + 286
    omega
theorem gEns_ok (S : GbS t h f L p A) {m : Nat} (hm : m ≤ 142) : ∃ h' f' p' A', CL 75 [.ref t, .int (nI m)] (wI h f) = some (.ok .null, wI h' f') ∧ GbS t h' f' L p' A' ∧ m ≤ p' ∧ GT t h f A h' f' A' 1 286 := by
  have hle := S.le
  have hck := S.ck
  have hal := S.al
  by_cases q : m ≤ p
  · refine ⟨h, f, p, A, ?_, S, q, (GT.rf t h f A).up (by omega) (by omega)⟩
    have hps := pos_sub (a := m) (b := p) (by omega) (by omega)
    rw [lz0] at hps
    rw [e75]
    simp (disch := omega) only [ckK_wI, HR_wI, HK_wI, HL_wI, hck, S.r, hal, S.la, show ∀ n, Int32.ofNat n = nI n from fun _ => rfl, S.c0, shrG, pos_sub, hps, show ¬(p < m) by omega, cond_true, cond_false, bI_ok, bI_er, bV_ok, bV_er, bR_ok, bR_er, bD_ok, bD_er, bF_ok, bF_er, thr_ap, cl_nI, lt_nI, le_nI, eq_nI, m1_lt, nI_m1, m1_nI, nI_lt_m1, add_nI, sub_nI, addm_nI, z_addm, z_subm, mul_nI, fit1_0, fit1_1, fit2_n, HI_wI, HK_wI, HL_wI, HR_wI, ckK_wI, chI_wI, sI_wI, wI_wI, lz0, lz1, lz2, lz3, lz4, lz5, lz6, lz7, lz8, lz9, lz10, lz12, lz13, lz16, lz17, lz20, lz21, lz23, lz26, lz30, lz32, lz35, lz40, lz45, lz48, lz57, lz58, lz59, lz60, lz61, lz63, lz64, lz97, lz99, lz100, lz110, lz111, lz126, lz129, lz132, lz133, lz166, lz169, lz255, lz999, lz1183, lz1800, Nat.reduceAdd, Nat.reduceLT, Nat.reduceEqDiff, Nat.not_lt_zero, Nat.lt_irrefl, ↓reduceIte, Nat.zero_add, Nat.add_zero, ne_eq, not_true_eq_false, not_false_eq_true, reduceCtorEq]
  · obtain ⟨s1, s2⟩ := gGrow_S S (q := max m (2 * p + 2)) (by omega) (by omega)
    have hcap := gCap_ok S (m := m) (by omega) hm
    have hcpy := gCopy_ok S (q := max m (2 * p + 2)) (by omega) (by omega)
    have hM : max m (2 * p + 2) < 1000 ∧ m ≤ max m (2 * p + 2) := by omega
    generalize max m (2 * p + 2) = M at *
    have hck2 : ckK (hnew h 102 M) t 10 = true := s1.ck
    have hsh := shlG hM.1
    refine ⟨gwG t h M, gf f (HN h) A p, M, HN h, ?_, s1, hM.2, s2⟩
    rw [e75]
    simp (disch := omega) only [ckK_wI, HR_wI, HK_wI, HL_wI, hck, S.r, hal, S.la, show ∀ n, Int32.ofNat n = nI n from fun _ => rfl, S.c0, shrG, hsh, show 0 < m - p by omega, hcap, hcpy, hck2, cond_true, cond_false, bI_ok, bI_er, bV_ok, bV_er, bR_ok, bR_er, bD_ok, bD_er, bF_ok, bF_er, thr_ap, cl_nI, lt_nI, le_nI, eq_nI, m1_lt, nI_m1, m1_nI, nI_lt_m1, add_nI, sub_nI, addm_nI, z_addm, z_subm, mul_nI, fit1_0, fit1_1, fit2_n, HI_wI, HK_wI, HL_wI, HR_wI, ckK_wI, chI_wI, sI_wI, wI_wI, lz0, lz1, lz2, lz3, lz4, lz5, lz6, lz7, lz8, lz9, lz10, lz12, lz13, lz16, lz17, lz20, lz21, lz23, lz26, lz30, lz32, lz35, lz40, lz45, lz48, lz57, lz58, lz59, lz60, lz61, lz63, lz64, lz97, lz99, lz100, lz110, lz111, lz126, lz129, lz132, lz133, lz166, lz169, lz255, lz999, lz1183, lz1800, Nat.reduceAdd, Nat.reduceLT, Nat.reduceEqDiff, Nat.not_lt_zero, Nat.lt_irrefl, ↓reduceIte, Nat.zero_add, Nat.add_zero, ne_eq, not_true_eq_false, not_false_eq_true, reduceCtorEq]
    rfl
end GB
