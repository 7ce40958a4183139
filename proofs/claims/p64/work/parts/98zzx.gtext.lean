/-! A BUILDER ANYWHERE: made, and its text taken -/
section GB3
variable {t p A s V : Nat} {h h' : Hp} {f f' : Nat → Nat → Int32} {L M : List Nat}
/-- nothing that stood is another; the room -/
def Nh (h h' : Hp) (dc ds : Nat) : Prop := HN h ≤ HN h' ∧ (∀ a, a < HN h → h'.2.1 a = h.2.1 a) ∧ (∀ a, a < HN h → ∀ i, HR h' a i = HR h a i) ∧ (∀ a, a < HN h → ∀ i, HI h' a i = HI h a i) ∧ HC h' ≤ HC h + dc ∧ HS h' ≤ HS h + ds
theorem Nh.rf (h : Hp) : Nh h h 0 0 := ⟨Nat.le_refl _, fun _ _ => rfl, fun _ _ _ => rfl, fun _ _ _ => rfl, Nat.le_refl _, Nat.le_refl _⟩
theorem Nh.tr {g : Hp} {a b c d : Nat} (G : Nh h h' a b) (K : Nh h' g c d) : Nh h g (a + c) (b + d) := by
  obtain ⟨a1, a2, a3, a4, a5, a6⟩ := G
  obtain ⟨b1, b2, b3, b4, b5, b6⟩ := K
  exact ⟨by omega, fun a ha => (b2 a (by omega)).trans (a2 a ha), fun a ha i => (b3 a (by omega) i).trans (a3 a ha i), fun a ha i => (b4 a (by omega) i).trans (a4 a ha i), by omega, by omega⟩
theorem Nh.up {a b c d : Nat} (G : Nh h h' a b) (h1 : a ≤ c) (h2 : b ≤ d) : Nh h h' c d := ⟨G.1, G.2.1, G.2.2.1, G.2.2.2.1, by have := G.2.2.2.2.1; omega, by have := G.2.2.2.2.2; omega⟩
/-- a builder made after h -/
def Bl (h g : Hp) (t : Nat) (L : List Nat) : Prop := HN h ≤ t ∧ ∃ p A, HN h ≤ A ∧ GbS t g (HI g) L p A
/-- new StringBuilder() -/
theorem gNew_ok (h31 : 31 ≤ HN h) : ∃ g, CL 8 [.ref (HN h)] (hnew h 10 4) = some (.ok .null, g) ∧ Bl h g (HN h) [] ∧ Nh h g 2 20 ∧ HN h < HN g := by
  have hk : HK (hnew h 10 4) (HN h) = 10 := congrArg Prod.fst (hnew_e h 10 4)
  have hN : HN (hnew h 10 4) = HN h + 1 := rfl
  refine ⟨mkL (hnew h 10 4) (HN h), mkL_ok hk hN, ⟨Nat.le_refl _, 16, HN h + 1, Nat.le_succ _, ⟨⟨?_, ?_, ?_, ?_⟩, ⟨?_, ?_, by omega, by omega, h31⟩, ⟨?_, ?_⟩, ⟨Nat.zero_le _, by decide⟩, fun i hi => ⟨0, by decide, ?_⟩, fun i hi => absurd hi (Nat.not_lt_zero i)⟩⟩, ⟨?_, fun a ha => ?_, fun a ha i => ?_, fun a ha i => ?_, ?_, ?_⟩, ?_⟩
  · show ((mkL (hnew h 10 4) (HN h)).2.1 (HN h)).1 = 10
    rw [mkL_k hN, if_neg (by omega)]
    exact hk
  · rw [mkL_r hN, if_pos ⟨rfl, rfl⟩]
  · show ((mkL (hnew h 10 4) (HN h)).2.1 (HN h + 1)).1 = 102
    rw [mkL_k hN, if_pos rfl]
  · show ((mkL (hnew h 10 4) (HN h)).2.1 (HN h + 1)).2 = 16
    rw [mkL_k hN, if_pos rfl]
  · show HN h + 1 < HN h + 1 + 1
    omega
  · show HN h < HN h + 1 + 1
    omega
  · rw [mkL_i hN, if_pos (Or.inr ⟨rfl, rfl⟩)]
  · rw [mkL_i hN, if_neg (by omega)]
    exact if_pos rfl
  · rw [mkL_i hN, if_pos (Or.inl rfl)]
  · show HN h ≤ HN h + 1 + 1
    omega
  · rw [mkL_k hN, if_neg (by omega)]
    exact hnew_k h 10 4 a (by omega)
  · rw [mkL_r hN, if_neg (by omega), if_neg (by omega)]
    exact if_neg (by omega)
  · rw [mkL_i hN, if_neg (by omega)]
    exact if_neg (by omega)
  · show HC h + 1 + 1 ≤ HC h + 2
    omega
  · show HS h + 4 + 16 ≤ HS h + 20
    omega
  · show HN h < HN h + 1 + 1
    omega
theorem GT.nw {g : Hp} {k : Nat → Nat → Int32} {A' dc ds : Nat} {h0 : Hp} (G : GT t h (HI h) A g k A' dc ds) (ht : HN h0 ≤ t) (hA : HN h0 ≤ A) {a b : Nat} (N : Nh h0 h a b) : Nh h0 (wI g k) (a + dc) (b + ds) := by
  obtain ⟨a1, a2, a3, a4, a5, a6⟩ := N
  obtain ⟨b1, b2, b3, b4, b5, b6, b7⟩ := G
  refine ⟨Nat.le_trans a1 b1, fun x hx => (b2 x (by omega)).trans (a2 x hx), fun x hx i => (b3 x (by omega) (by omega) i).trans (a3 x hx i), fun x hx i => (b4 x (by omega) (by omega) (by omega) i).trans (a4 x hx i), ?_, ?_⟩
  · show HC g ≤ _
    omega
  · show HS g ≤ _
    omega
theorem Bl.c {g : Hp} (B : Bl h g t L) {a b : Nat} (N : Nh h g a b) {ch : Nat} (hc : ch < 128) (hl : L.length < 142) : ∃ g', CL 81 [.ref t, .int (nI ch)] g = some (.ok (.ref t), g') ∧ Bl h g' t (L ++ [ch]) ∧ Nh h g' (a + 1) (b + 286) ∧ HN g ≤ HN g' := by
  obtain ⟨ht, p, A, hA, S⟩ := B
  obtain ⟨g1, f1, p1, A1, k1, S1, G1⟩ := gC_ok S hc hl
  exact ⟨wI g1 f1, k1, ⟨ht, p1, A1, by have := G1.2.2.2.2.1; have := N.1; omega, S1⟩, G1.nw ht hA N, G1.1⟩
theorem Bl.i {g : Hp} (B : Bl h g t L) {a b : Nat} (N : Nh h g a b) (K : KoS g) (F : Ko (HI g)) {v : Nat} (hv : v < 1073741824) (hl : L.length + 10 ≤ 142) : ∃ g', CL 86 [.ref t, .int (nI v)] g = some (.ok (.ref t), g') ∧ Bl h g' t (L ++ dig v) ∧ Nh h g' (a + 1) (b + 286) ∧ HN g ≤ HN g' := by
  obtain ⟨ht, p, A, hA, S⟩ := B
  obtain ⟨g1, f1, p1, A1, k1, S1, G1⟩ := gI_ok S K F hv hl
  exact ⟨wI g1 f1, k1, ⟨ht, p1, A1, by have := G1.2.2.2.2.1; have := N.1; omega, S1⟩, G1.nw ht hA N, G1.1⟩
/-- a text that stood before the builder was made is added to it -/
theorem Bl.st {g : Hp} (B : Bl h g t L) {a b : Nat} (N : Nh h g a b) (T : StS h (HI h) s V M) (hl : L.length + M.length ≤ 142) : ∃ g', CL 96 [.ref t, .ref s] g = some (.ok (.ref t), g') ∧ Bl h g' t (L ++ M) ∧ Nh h g' (a + 1) (b + 286) ∧ HN g ≤ HN g' := by
  obtain ⟨ht, p, A, hA, S⟩ := B
  have t1 := T.2.2.1
  have T' : StS g (HI g) s V M := T.mv N.1 ⟨N.2.1 s t1.1, N.2.1 V t1.2⟩ (N.2.2.1 s t1.1 0) ⟨N.2.2.2.1 s t1.1 1, fun i _ => N.2.2.2.1 V t1.2 i⟩
  obtain ⟨g1, f1, p1, A1, k1, S1, G1⟩ := gS_ok S T' (by omega) (by omega) hl
  exact ⟨wI g1 f1, k1, ⟨ht, p1, A1, by have := G1.2.2.2.2.1; have := N.1; omega, S1⟩, G1.nw ht hA N, G1.1⟩
/-- the same, of any text that isn't the builder itself -/
theorem Bl.st' {g : Hp} (B : Bl h g t L) {a b : Nat} (N : Nh h g a b) (T : StS g (HI g) s V M) (hd : ∀ p A, GbS t g (HI g) L p A → s ≠ t ∧ s ≠ A ∧ V ≠ t ∧ V ≠ A) (hl : L.length + M.length ≤ 142) : ∃ g', CL 96 [.ref t, .ref s] g = some (.ok (.ref t), g') ∧ Bl h g' t (L ++ M) ∧ Nh h g' (a + 1) (b + 286) ∧ HN g ≤ HN g' := by
  obtain ⟨ht, p, A, hA, S⟩ := B
  have hd := hd p A S
  obtain ⟨g1, f1, p1, A1, k1, S1, G1⟩ := gS_ok S T ⟨hd.1, hd.2.1⟩ hd.2.2 hl
  exact ⟨wI g1 f1, k1, ⟨ht, p1, A1, by have := G1.2.2.2.2.1; have := N.1; omega, S1⟩, G1.nw ht hA N, G1.1⟩
/-- the bytes of its text, copied -/
theorem cR_ok (S : GbS t h f L p A) : ∃ k : Nat → Nat → Int32, CL 199 [.ref A, .int (nI 0), .int (nI L.length)] (wI h f) = some (.ok (.ref (HN h)), wI (hnew h 102 L.length) k) ∧ (∀ a, a ≠ HN h → ∀ j, k a j = f a j) ∧ ∀ i, i < L.length → k (HN h) i = f A i := by
  have hle := S.le
  have hA : A ≠ HN h := by have := S.ps; omega
  have hal := S.al
  by_cases q : L.length = p
  · have hfit : bfit (wI h f) A 0 p = true := gfit S (fun _ _ => rfl) (Nat.le_refl p)
    have hck : ckK (wI h f) A 102 = true := ck_of S.ka
    have hc : hcln (wI h f) A = wI (hnew h 102 L.length) (fun a j => if a = HN h then f A j else f a j) := by
      have e : HL (wI h f) A = L.length := S.la.trans q.symm
      unfold hcln
      rw [e]
      rfl
    have hk : ckK (wI (hnew h 102 L.length) (fun a j => if a = HN h then f A j else f a j)) (HN h) 102 = true := ck_of (congrArg Prod.fst (hnew_e h 102 _))
    refine ⟨fun a j => if a = HN h then f A j else f a j, ?_, fun a ha j => if_neg ha, fun i hi => if_pos rfl⟩
    rw [e199]
    simp (disch := omega) only [HK_wI, HL_wI, HN_wI, hal, S.la, q, show ∀ n, Int32.ofNat n = nI n from fun _ => rfl, hck, hfit, show Nat.ble (wgt []) 8 = true from rfl, Bool.and_self, cond_true, cond_false, bI_ok, bI_er, bV_ok, bV_er, bR_ok, bR_er, bD_ok, bD_er, bF_ok, bF_er, thr_ap, cl_nI, lt_nI, le_nI, eq_nI, m1_lt, nI_m1, m1_nI, nI_lt_m1, add_nI, sub_nI, addm_nI, z_addm, z_subm, mul_nI, fit1_0, fit1_1, fit2_n, HI_wI, HK_wI, HL_wI, HR_wI, ckK_wI, chI_wI, sI_wI, wI_wI, lz0, lz1, lz2, lz3, lz4, lz5, lz6, lz7, lz8, lz9, lz10, lz12, lz13, lz16, lz17, lz20, lz21, lz23, lz26, lz30, lz32, lz35, lz40, lz45, lz48, lz57, lz58, lz59, lz60, lz61, lz63, lz64, lz97, lz99, lz100, lz110, lz111, lz126, lz129, lz132, lz133, lz166, lz169, lz255, lz999, lz1183, lz1800, Nat.reduceAdd, Nat.reduceLT, Nat.reduceEqDiff, Nat.not_lt_zero, Nat.lt_irrefl, ↓reduceIte, Nat.zero_add, Nat.add_zero, ne_eq, not_true_eq_false, not_false_eq_true, reduceCtorEq]
    rw [← q, hc, hk]
    rfl
  · have hlt : L.length < p := by omega
    have hnw : hnew (wI h f) 102 L.length = wI (hnew h 102 L.length) (u1 f (HN h) (nI 0)) := rfl
    have hK : HK (hnew h 102 L.length) A = 102 := (congrArg Prod.fst (hnew_k h _ _ A hA)).trans S.ka
    have hal2 : Nat.ble 100 (HK (hnew h 102 L.length) A) = true := by rw [hK]; rfl
    have hL : HL (hnew h 102 L.length) A = p := (congrArg Prod.snd (hnew_k h _ _ A hA)).trans S.la
    have hKN : HK (hnew h 102 L.length) (HN h) = 102 := congrArg Prod.fst (hnew_e h _ _)
    have hLN : HL (hnew h 102 L.length) (HN h) = L.length := congrArg Prod.snd (hnew_e h _ _)
    have hfit : bfit (wI (hnew h 102 L.length) (u1 f (HN h) (nI 0))) A 0 L.length = true := gfit S (fun i _ => by unfold u1; rw [if_neg hA]) hle.1
    have hcp : cpOK (wI (hnew h 102 L.length) (u1 f (HN h) (nI 0))) A (HN h) (nI 0) (nI 0) (nI L.length) (wgt []) = true := by
      unfold cpOK
      rw [cl_nI (by omega), cl_nI (by omega), hfit]
      have k1 : ckK (wI (hnew h 102 L.length) (u1 f (HN h) (nI 0))) (HN h) 102 = true := ck_of hKN
      have k2 : ckK (wI (hnew h 102 L.length) (u1 f (HN h) (nI 0))) A 102 = true := ck_of hK
      have k3 : (0 : Int32) ≤ nI L.length := nI_pos' (by omega)
      have k4 : (0 : Int32) ≤ nI 0 := nI_pos' (by omega)
      rw [k1, k2, HL_wI, HL_wI, hL, hLN, decide_eq_true hA, decide_eq_true k3, decide_eq_true k4, show Nat.ble (0 + L.length) p = true from Nat.ble_eq.mpr (by omega), show Nat.ble (0 + L.length) L.length = true from Nat.ble_eq.mpr (by omega)]
      rfl
    have h100 := big3 (n := L.length) (by omega)
    rw [Bool.and_eq_true] at h100
    have h100 := h100.2
    have h198 : CL 198 [.ref A, .int (nI 0), .int (nI L.length)] (wI h f) = some (.ok (.ref (HN h)), wI (hnew h 102 L.length) (fun a k => if a = HN h ∧ 0 ≤ k ∧ k < 0 + L.length then u1 f (HN h) (nI 0) A (0 + (k - 0)) else u1 f (HN h) (nI 0) a k)) := by
      rw [e198, e197]
      simp (disch := omega) only [neg_nI, HK_wI, HL_wI, HN_wI, show ∀ n, Int32.ofNat n = nI n from fun _ => rfl, Nat.sub_zero, h100, Nat.zero_le, decide_true, Bool.true_and, hnw, hal2, hL, hlt, hcp, hcpy_wI, cond_true, cond_false, bI_ok, bI_er, bV_ok, bV_er, bR_ok, bR_er, bD_ok, bD_er, bF_ok, bF_er, thr_ap, cl_nI, lt_nI, le_nI, eq_nI, m1_lt, nI_m1, m1_nI, nI_lt_m1, add_nI, sub_nI, addm_nI, z_addm, z_subm, mul_nI, fit1_0, fit1_1, fit2_n, HI_wI, HK_wI, HL_wI, HR_wI, ckK_wI, chI_wI, sI_wI, wI_wI, lz0, lz1, lz2, lz3, lz4, lz5, lz6, lz7, lz8, lz9, lz10, lz12, lz13, lz16, lz17, lz20, lz21, lz23, lz26, lz30, lz32, lz35, lz40, lz45, lz48, lz57, lz58, lz59, lz60, lz61, lz63, lz64, lz97, lz99, lz100, lz110, lz111, lz126, lz129, lz132, lz133, lz166, lz169, lz255, lz999, lz1183, lz1800, Nat.reduceAdd, Nat.reduceLT, Nat.reduceEqDiff, Nat.not_lt_zero, Nat.lt_irrefl, ↓reduceIte, Nat.zero_add, Nat.add_zero, ne_eq, not_true_eq_false, not_false_eq_true, reduceCtorEq]
    refine ⟨fun a k => if a = HN h ∧ 0 ≤ k ∧ k < 0 + L.length then u1 f (HN h) (nI 0) A (0 + (k - 0)) else u1 f (HN h) (nI 0) a k, ?_, fun a ha j => ?_, fun i hi => ?_⟩
    · rw [e199]
      simp (disch := omega) only [HK_wI, HL_wI, HN_wI, hal, S.la, q, show ∀ n, Int32.ofNat n = nI n from fun _ => rfl, h198, cond_true, cond_false, bI_ok, bI_er, bV_ok, bV_er, bR_ok, bR_er, bD_ok, bD_er, bF_ok, bF_er, thr_ap, cl_nI, lt_nI, le_nI, eq_nI, m1_lt, nI_m1, m1_nI, nI_lt_m1, add_nI, sub_nI, addm_nI, z_addm, z_subm, mul_nI, fit1_0, fit1_1, fit2_n, HI_wI, HK_wI, HL_wI, HR_wI, ckK_wI, chI_wI, sI_wI, wI_wI, lz0, lz1, lz2, lz3, lz4, lz5, lz6, lz7, lz8, lz9, lz10, lz12, lz13, lz16, lz17, lz20, lz21, lz23, lz26, lz30, lz32, lz35, lz40, lz45, lz48, lz57, lz58, lz59, lz60, lz61, lz63, lz64, lz97, lz99, lz100, lz110, lz111, lz126, lz129, lz132, lz133, lz166, lz169, lz255, lz999, lz1183, lz1800, Nat.reduceAdd, Nat.reduceLT, Nat.reduceEqDiff, Nat.not_lt_zero, Nat.lt_irrefl, ↓reduceIte, Nat.zero_add, Nat.add_zero, ne_eq, not_true_eq_false, not_false_eq_true, reduceCtorEq]
    · show (if a = HN h ∧ 0 ≤ j ∧ j < 0 + L.length then _ else u1 f (HN h) (nI 0) a j) = _
      rw [if_neg (fun z => ha z.1)]
      exact if_neg ha
    · show (if HN h = HN h ∧ 0 ≤ i ∧ i < 0 + L.length then u1 f (HN h) (nI 0) A (0 + (i - 0)) else _) = _
      rw [if_pos ⟨rfl, Nat.zero_le i, by omega⟩]
      unfold u1
      rw [if_neg hA, Nat.zero_add, Nat.sub_zero]
/-- toString -/
theorem gStr_ok {g : Hp} (B : Bl h g t L) {a b : Nat} (N : Nh h g a b) (lo : Lo L) (hl : L.length ≤ 142) : ∃ g', CL 202 [.ref t] g = some (.ok (.ref (HN g)), g') ∧ StS g' (HI g') (HN g) (HN g + 1) L ∧ HK g' (HN g + 1) = 102 ∧ Nh h g' (a + 2) (b + 150) ∧ HN g' = HN g + 2 ∧ Nh g g' 2 150 ∧ ∀ a i, a ≠ HN g → a ≠ HN g + 1 → HR g' a i = HR g a i := by
  obtain ⟨ht, p, A, hA, S⟩ := B
  obtain ⟨p1, p2, p3, p4, p5⟩ := S.ps
  have hsn : A ≠ HN g ∧ t ≠ HN g := by omega
  have S2 : GbS t (hnew g 9 4) (u2 (u1 (HI g) (HN g) (nI 0)) (HN g) 1 (nI 0)) L p A := by
    refine ⟨⟨(congrArg Prod.fst (hnew_k g 9 4 t hsn.2)).trans S.1.1, (if_neg hsn.2).trans S.r, (congrArg Prod.fst (hnew_k g 9 4 A hsn.1)).trans S.ka, (congrArg Prod.snd (hnew_k g 9 4 A hsn.1)).trans S.la⟩, ⟨Nat.lt_succ_of_lt p1, Nat.lt_succ_of_lt p2, p3, p4, p5⟩, ⟨?_, ?_⟩, S.le, fun i hi => ?_, fun i hi => ?_⟩
    · rw [w2_ne (by omega)]
      exact (if_neg hsn.2).trans S.c0
    · rw [w2_ne (by omega)]
      exact (if_neg hsn.2).trans S.n
    · rw [w2_ne (by omega), show u1 (HI g) (HN g) (nI 0) A i = HI g A i from if_neg hsn.1]
      exact S.z i hi
    · rw [w2_ne (by omega), show u1 (HI g) (HN g) (nI 0) A i = HI g A i from if_neg hsn.1]
      exact S.x i hi
  have S1 : GbS t (hnew g 9 4) (u1 (HI g) (HN g) (nI 0)) L p A := by
    refine ⟨S2.1, S2.2.1, ⟨(if_neg hsn.2).trans S.c0, (if_neg hsn.2).trans S.n⟩, S.le, fun i hi => ?_, fun i hi => ?_⟩
    · rw [show u1 (HI g) (HN g) (nI 0) A i = HI g A i from if_neg hsn.1]
      exact S.z i hi
    · rw [show u1 (HI g) (HN g) (nI 0) A i = HI g A i from if_neg hsn.1]
      exact S.x i hi
  obtain ⟨k, c1, c2, c3⟩ := cR_ok S2
  have hN1 : HN (hnew g 9 4) = HN g + 1 := rfl
  rw [hN1] at c1 c2 c3
  have e1 : hnew g 9 4 = wI (hnew g 9 4) (u1 (HI g) (HN g) (nI 0)) := rfl
  have e2 : sI (wI (hnew g 9 4) (u1 (HI g) (HN g) (nI 0))) (HN g) 1 (nI 0) = wI (hnew g 9 4) (u2 (u1 (HI g) (HN g) (nI 0)) (HN g) 1 (nI 0)) := rfl
  have k9 : ∀ (q : Nat → Nat → Int32), ckK (wI (hnew g 9 4) q) (HN g) 9 = true := fun q => ck_of (congrArg Prod.fst (hnew_e g 9 4))
  have kp : ∀ (q : Nat → Nat → Int32), Nat.blt 0 (HK (wI (hnew g 9 4) q) (HN g)) = true := fun q => by
    rw [show HK (wI (hnew g 9 4) q) (HN g) = 9 from congrArg Prod.fst (hnew_e g 9 4)]
    rfl
  have k9' : ckK (wI (hnew (hnew g 9 4) 102 L.length) k) (HN g) 9 = true := ck_of ((congrArg Prod.fst (hnew_k (hnew g 9 4) 102 L.length (HN g) (by rw [hN1]; omega))).trans (congrArg Prod.fst (hnew_e g 9 4)))
  have h196 : CL 196 [.ref t] (wI (hnew g 9 4) (u1 (HI g) (HN g) (nI 0))) = some (.ok (.ref A), wI (hnew g 9 4) (u1 (HI g) (HN g) (nI 0))) := by
    rw [e196]
    simp only [ckK_wI, HR_wI, S1.ck, S1.r, cond_true]
  have h200 : CL 200 [.ref (HN g), .ref t, .ref 0] (wI (hnew g 9 4) (u1 (HI g) (HN g) (nI 0))) = some (.ok .null, sR (wI (hnew (hnew g 9 4) 102 L.length) k) (HN g) 0 (HN g + 1)) := by
    rw [e200, kp]
    simp (disch := omega) only [ckK_wI, S1.ck, h196, gLength_ok S1, gLatin_ok S1, show ¬(1 = 0) by decide, show Nat.ble (wgt []) 8 = true from rfl, Bool.and_self, show ckK (hnew g 9 4) (HN g) 9 = true from k9 (HI (hnew g 9 4)), show fitc 3 (nI 0) = true from rfl, cond_true, cond_false, bI_ok, bI_er, bV_ok, bV_er, bR_ok, bR_er, bD_ok, bD_er, bF_ok, bF_er, thr_ap, cl_nI, lt_nI, le_nI, eq_nI, m1_lt, nI_m1, m1_nI, nI_lt_m1, add_nI, sub_nI, addm_nI, z_addm, z_subm, mul_nI, fit1_0, fit1_1, fit2_n, HI_wI, HK_wI, HL_wI, HR_wI, ckK_wI, chI_wI, sI_wI, wI_wI, lz0, lz1, lz2, lz3, lz4, lz5, lz6, lz7, lz8, lz9, lz10, lz12, lz13, lz16, lz17, lz20, lz21, lz23, lz26, lz30, lz32, lz35, lz40, lz45, lz48, lz57, lz58, lz59, lz60, lz61, lz63, lz64, lz97, lz99, lz100, lz110, lz111, lz126, lz129, lz132, lz133, lz166, lz169, lz255, lz999, lz1183, lz1800, Nat.reduceAdd, Nat.reduceLT, Nat.reduceEqDiff, Nat.not_lt_zero, Nat.lt_irrefl, ↓reduceIte, Nat.zero_add, Nat.add_zero, ne_eq, not_true_eq_false, not_false_eq_true, reduceCtorEq]
    rw [c1]
    simp only [bR_ok, k9', cond_true]
  have h201 : CL 201 [.ref (HN g), .ref t] (wI (hnew g 9 4) (u1 (HI g) (HN g) (nI 0))) = some (.ok .null, sR (wI (hnew (hnew g 9 4) 102 L.length) k) (HN g) 0 (HN g + 1)) := by
    rw [e201, k9, h200]
    rfl
  have h202 : CL 202 [.ref t] g = some (.ok (.ref (HN g)), sR (wI (hnew (hnew g 9 4) 102 L.length) k) (HN g) 0 (HN g + 1)) := by
    rw [e202]
    dsimp only
    rw [e1, k9, h201]
    rfl
  have kk : ∀ x, x < HN g → (sR (wI (hnew (hnew g 9 4) 102 L.length) k) (HN g) 0 (HN g + 1)).2.1 x = g.2.1 x := fun x hx => (hnew_k (hnew g 9 4) 102 L.length x (by rw [hN1]; omega)).trans (hnew_k g 9 4 x (by omega))
  have kr : ∀ x, x < HN g → ∀ i, HR (sR (wI (hnew (hnew g 9 4) 102 L.length) k) (HN g) 0 (HN g + 1)) x i = HR g x i := fun x hx i => by
    show u2 (u1 (u1 (HR g) (HN g) 0) (HN g + 1) 0) (HN g) 0 (HN g + 1) x i = _
    rw [w2_ne (by omega)]
    unfold u1
    rw [if_neg (by omega), if_neg (by omega)]
  have kr' : ∀ x i, x ≠ HN g → x ≠ HN g + 1 → HR (sR (wI (hnew (hnew g 9 4) 102 L.length) k) (HN g) 0 (HN g + 1)) x i = HR g x i := fun x i h1 h2 => by
    show u2 (u1 (u1 (HR g) (HN g) 0) (HN g + 1) 0) (HN g) 0 (HN g + 1) x i = _
    rw [w2_ne (by omega)]
    unfold u1
    rw [if_neg h2, if_neg h1]
  have ki : ∀ x, x < HN g → ∀ i, HI (sR (wI (hnew (hnew g 9 4) 102 L.length) k) (HN g) 0 (HN g + 1)) x i = HI g x i := fun x hx i => by
    show k x i = _
    rw [c2 x (by omega) i, w2_ne (by omega)]
    exact if_neg (by omega)
  have nw : Nh g (sR (wI (hnew (hnew g 9 4) 102 L.length) k) (HN g) 0 (HN g + 1)) 2 150 := by
    refine ⟨by show HN g ≤ HN g + 1 + 1; omega, kk, kr, ki, by show HC g + 1 + 1 ≤ _; omega, by show HS g + 4 + L.length ≤ _; omega⟩
  have hL : HL (sR (wI (hnew (hnew g 9 4) 102 L.length) k) (HN g) 0 (HN g + 1)) (HN g + 1) = L.length := congrArg Prod.snd (hnew_e (hnew g 9 4) 102 L.length)
  have hK : HK (sR (wI (hnew (hnew g 9 4) 102 L.length) k) (HN g) 0 (HN g + 1)) (HN g + 1) = 102 := congrArg Prod.fst (hnew_e (hnew g 9 4) 102 L.length)
  refine ⟨_, h202, ⟨⟨?_, ?_, ?_⟩, ⟨Or.inl hK, hL⟩, ⟨by show HN g < HN g + 1 + 1; omega, by show HN g + 1 < HN g + 1 + 1; omega⟩, hl, fun i hi => ⟨?_, ?_⟩⟩, hK, N.tr nw, rfl, nw, kr'⟩
  · show (ckK (wI (hnew (hnew g 9 4) 102 L.length) k) (HN g) 11 || ckK (wI (hnew (hnew g 9 4) 102 L.length) k) (HN g) 9) = true
    rw [k9', Bool.or_true]
  · exact w2_eq _ _ _ _
  · show k (HN g) 1 = nI 0
    rw [c2 _ (by omega), w2_eq]
  · show k (HN g + 1) i = _
    rw [c3 i hi, w2_ne (by omega), show u1 (HI g) (HN g) (nI 0) A i = HI g A i from if_neg hsn.1]
    exact S.x i hi
  · exact lo.at hi
end GB3
