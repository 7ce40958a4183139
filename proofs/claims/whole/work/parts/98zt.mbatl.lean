/-! THE REFERENCE: the line of the batch; a character of the line -/
def repL (A : AF) (Q : QF) (i : Nat) : List Nat := ((([97 + (Q i).1] ++ dig (Q i).2.1) ++ [61]) ++ dig (Q i).2.2) ++ [oc A Q i]
def batL (A : AF) (Q : QF) : Nat → List Nat
  | 0 => []
  | i + 1 => (batL A Q i ++ (if i = 0 then [] else [32])) ++ repL A Q i
theorem batL_y (A : AF) (Q : QF) (i : Nat) (M : List Nat) : M ++ repL A Q i = ((((M ++ [97 + (Q i).1]) ++ dig (Q i).2.1) ++ [61]) ++ dig (Q i).2.2) ++ [oc A Q i] := by
  unfold repL
  simp only [List.append_assoc]
theorem batL_len {A : AF} {Q : QF} {n : Nat} (hQ : ∀ i, i < n → (Q i).2.1 < 1000 ∧ (Q i).2.2 < 100) : ∀ i, i ≤ n → (batL A Q i).length ≤ 9 * i
  | 0, _ => Nat.zero_le 0
  | i + 1, hi => by
    have ih := batL_len (A := A) hQ i (by omega)
    have h1 := dig_len3 (hQ i (by omega)).1
    have h2 := dig_len2 (hQ i (by omega)).2
    have h3 : (if i = 0 then ([] : List Nat) else [32]).length ≤ 1 := by
      split
      · exact Nat.zero_le 1
      · exact Nat.le_refl 1
    show ((batL A Q i ++ (if i = 0 then [] else [32])) ++ repL A Q i).length ≤ 9 * (i + 1)
    unfold repL
    rw [la2, la2, la1, la2, la1, la2]
    show (batL A Q i).length + (if i = 0 then ([] : List Nat) else [32]).length + (1 + (dig (Q i).2.1).length + 1 + (dig (Q i).2.2).length + 1) ≤ 9 * (i + 1)
    omega
section LQ4
variable {h : Hp} {b : Bk}
theorem batM_loop (S : MdS h) {f : Nat → Nat → Int32} (R : RN (f 242) b) : ∀ (d i : Nat) (g : Nat → Nat → Int32), i + d = kN b → FLi f g → LM g (batL (kA b) (kQ b) i) → ∃ f', RF 321 9 [.ref 241, .int (nI (batL (kA b) (kQ b) i).length), .int (nI i)] [] (wI h g) = some (.ok (.int (nI (batL (kA b) (kQ b) (kN b)).length)), wI h f') ∧ LI f' (batL (kA b) (kQ b) (kN b)) ∧ f' 241 16 = g 241 16 ∧ FLi f f' := by
  have n12 := R.2.1.1
  have hQ : ∀ i, i < kN b → (kQ b i).2.1 < 1000 ∧ (kQ b i).2.2 < 100 := fun i hi => ⟨(R.2.1.2.2 i hi).2.2.2.2.1, (R.2.1.2.2 i hi).2.2.2.2.2.2⟩
  intro d
  induction d with
  | zero =>
    intro i g hi H L
    have e : i = kN b := by omega
    subst e
    have g2 : g 242 2 = nI (kN b) := (H 242 2 (by decide) (by omega)).trans R.2.1.2.1
    refine ⟨u2 g 241 15 (nI (batL (kA b) (kQ b) (kN b)).length), ?_, ⟨L.fr (fun y => w2_ne (by omega)), w2_eq _ _ _ _⟩, w2_ne (by omega), fun a y q1 q2 => (w2_ne (by omega)).trans (H a y q1 q2)⟩
    rw [e321_9]
    simp (disch := omega) only [S.f, S.cw (show 2 < 169 by decide), g2, cond_true, cond_false, bI_ok, bI_er, bV_ok, bV_er, bR_ok, bR_er, bD_ok, bD_er, bF_ok, bF_er, thr_ap, cl_nI, lt_nI, le_nI, eq_nI, m1_lt, nI_m1, m1_nI, nI_lt_m1, add_nI, sub_nI, addm_nI, z_addm, z_subm, mul_nI, fit1_0, fit1_1, fit2_n, HI_wI, HK_wI, HL_wI, HR_wI, ckK_wI, chI_wI, sI_wI, wI_wI, lz0, lz1, lz2, lz3, lz4, lz5, lz6, lz7, lz8, lz9, lz10, lz12, lz13, lz16, lz17, lz20, lz21, lz23, lz26, lz30, lz32, lz35, lz40, lz45, lz48, lz57, lz58, lz59, lz60, lz61, lz63, lz64, lz97, lz99, lz100, lz110, lz111, lz126, lz129, lz132, lz133, lz166, lz169, lz255, lz999, lz1183, lz1800, Nat.reduceAdd, Nat.reduceLT, Nat.reduceEqDiff, Nat.not_lt_zero, Nat.lt_irrefl, ↓reduceIte, Nat.zero_add, Nat.add_zero, ne_eq, not_true_eq_false, not_false_eq_true, reduceCtorEq]
  | succ d ih =>
    intro i g hi H L
    have hin : i < kN b := by omega
    have hq := R.2.1.2.2 i hin
    have hg : ∀ y, g 242 y = f 242 y := fun y => H 242 y (by decide) (by omega)
    have g2 : g 242 2 = nI (kN b) := (hg 2).trans R.2.1.2.1
    have hl := batL_len (A := kA b) hQ i (by omega)
    have l3 := dig_len3 (hQ i hin).1
    have l2 := dig_len2 (hQ i hin).2
    have Rc : ∀ g', FLm g g' → RN (g' 242) b := fun g' c => R.cong (fun y _ => (c 242 y (by decide)).trans (hg y))
    have key : ∀ (M : List Nat) (g0 : Nat → Nat → Int32), LM g0 M → M.length ≤ 109 → FLm g g0 → batL (kA b) (kQ b) (i + 1) = M ++ repL (kA b) (kQ b) i → ∃ f' g1 g2 g3 g4 g5 m1 m2 m3 m4 m5,
        CL 217 [.ref 241, .int (nI i), .int (nI 0)] (wI h g0) = some (.ok (.int (nI (97 + (kQ b i).1))), wI h g0) ∧
        CL 316 [.ref 241, .int (nI M.length), .int (nI (97 + (kQ b i).1))] (wI h g0) = some (.ok (.int (nI m1)), wI h g1) ∧
        CL 217 [.ref 241, .int (nI i), .int (nI 1)] (wI h g1) = some (.ok (.int (nI (kQ b i).2.1)), wI h g1) ∧
        CL 317 [.ref 241, .int (nI m1), .int (nI (kQ b i).2.1)] (wI h g1) = some (.ok (.int (nI m2)), wI h g2) ∧
        CL 316 [.ref 241, .int (nI m2), .int (nI 61)] (wI h g2) = some (.ok (.int (nI m3)), wI h g3) ∧
        CL 217 [.ref 241, .int (nI i), .int (nI 2)] (wI h g3) = some (.ok (.int (nI (kQ b i).2.2)), wI h g3) ∧
        CL 317 [.ref 241, .int (nI m3), .int (nI (kQ b i).2.2)] (wI h g3) = some (.ok (.int (nI m4)), wI h g4) ∧
        CL 222 [.ref 241, .int (nI i)] (wI h g4) = some (.ok (.int (nI (oc (kA b) (kQ b) i))), wI h g4) ∧
        CL 316 [.ref 241, .int (nI m4), .int (nI (oc (kA b) (kQ b) i))] (wI h g4) = some (.ok (.int (nI m5)), wI h g5) ∧
        RF 321 9 [.ref 241, .int (nI m5), .int (nI (i + 1))] [] (wI h g5) = some (.ok (.int (nI (batL (kA b) (kQ b) (kN b)).length)), wI h f') ∧ LI f' (batL (kA b) (kQ b) (kN b)) ∧ f' 241 16 = g 241 16 ∧ FLi f f' := by
      intro M g0 L0 hM c0 eM
      obtain ⟨g1, a1, b1, c1⟩ := putc_ok S L0 (c := 97 + (kQ b i).1) (n := M.length) (m := M.length + 1) (by omega) rfl rfl
      obtain ⟨g2, a2, b2, c2⟩ := wn_ok S b1 (v := (kQ b i).2.1) (n := M.length + 1) (m := M.length + 1 + (dig (kQ b i).2.1).length) (by omega) (by rw [la1]; omega) (by rw [la1]) rfl
      obtain ⟨g3, a3, b3, c3⟩ := putc_ok S b2 (c := 61) (n := M.length + 1 + (dig (kQ b i).2.1).length) (m := M.length + 1 + (dig (kQ b i).2.1).length + 1) (by rw [la2, la1]; omega) (by rw [la2, la1]) rfl
      obtain ⟨g4, a4, b4, c4⟩ := wn_ok S b3 (v := (kQ b i).2.2) (n := M.length + 1 + (dig (kQ b i).2.1).length + 1) (m := M.length + 1 + (dig (kQ b i).2.1).length + 1 + (dig (kQ b i).2.2).length) (by omega) (by rw [la1, la2, la1]; omega) (by rw [la1, la2, la1]) rfl
      obtain ⟨g5, a5, b5, c5⟩ := putc_ok S b4 (c := oc (kA b) (kQ b) i) (n := M.length + 1 + (dig (kQ b i).2.1).length + 1 + (dig (kQ b i).2.2).length) (m := (batL (kA b) (kQ b) (i + 1)).length) (by rw [la2, la1, la2, la1]; omega) (by rw [la2, la1, la2, la1]) (by rw [eM, batL_y, la1, la2, la1, la2, la1])
      have d1 := c0.trans c1
      have d3 := (d1.trans c2).trans c3
      have d4 := d3.trans c4
      have d5 := d4.trans c5
      rw [← batL_y, ← eM] at b5
      obtain ⟨f', f1, f2, f3, f4⟩ := ih (i + 1) g5 (by omega) (H.trans d5.i) b5
      refine ⟨f', g1, g2, g3, g4, g5, _, _, _, _, _, or_s (h := wI h g0) (S.wI g0) (Rc g0 c0).2.1 hin, a1, or_k (h := wI h g1) (S.wI g1) (Rc g1 d1).2.1 hin, a2, a3, or_a (h := wI h g3) (S.wI g3) (Rc g3 d3).2.1 hin, a4, outcomeM_ok (h := wI h g4) (S.wI g4) (Rc g4 d4).1 (Rc g4 d4).2.1 hin, a5, f1, f2, f3.trans (d5 241 16 (by decide)), f4⟩
    by_cases q : i = 0
    · subst q
      obtain ⟨f', g1, g2', g3, g4, g5, m1, m2, m3, m4, m5, k1, k2, k3, k4, k5, k6, k7, k8, k9, k10, k11, k12, k13⟩ := key (batL (kA b) (kQ b) 0) g L (by omega) (fun _ _ _ => rfl) rfl
      refine ⟨f', ?_, k11, k12, k13⟩
      rw [e321_9]
      simp (disch := omega) only [S.f, S.cw (show 2 < 169 by decide), g2, hin, k1, k2, k3, k4, k5, k6, k7, k8, k9, k10, cond_true, cond_false, bI_ok, bI_er, bV_ok, bV_er, bR_ok, bR_er, bD_ok, bD_er, bF_ok, bF_er, thr_ap, cl_nI, lt_nI, le_nI, eq_nI, m1_lt, nI_m1, m1_nI, nI_lt_m1, add_nI, sub_nI, addm_nI, z_addm, z_subm, mul_nI, fit1_0, fit1_1, fit2_n, HI_wI, HK_wI, HL_wI, HR_wI, ckK_wI, chI_wI, sI_wI, wI_wI, lz0, lz1, lz2, lz3, lz4, lz5, lz6, lz7, lz8, lz9, lz10, lz12, lz13, lz16, lz17, lz20, lz21, lz23, lz26, lz30, lz32, lz35, lz40, lz45, lz48, lz57, lz58, lz59, lz60, lz61, lz63, lz64, lz97, lz99, lz100, lz110, lz111, lz126, lz129, lz132, lz133, lz166, lz169, lz255, lz999, lz1183, lz1800, Nat.reduceAdd, Nat.reduceLT, Nat.reduceEqDiff, Nat.not_lt_zero, Nat.lt_irrefl, ↓reduceIte, Nat.zero_add, Nat.add_zero, ne_eq, not_true_eq_false, not_false_eq_true, reduceCtorEq]
    · obtain ⟨g0, a0, b0, c0⟩ := putc_ok S L (c := 32) (n := (batL (kA b) (kQ b) i).length) (m := (batL (kA b) (kQ b) i ++ [32]).length) (by omega) rfl (by rw [la1])
      obtain ⟨f', g1, g2', g3, g4, g5, m1, m2, m3, m4, m5, k1, k2, k3, k4, k5, k6, k7, k8, k9, k10, k11, k12, k13⟩ := key (batL (kA b) (kQ b) i ++ [32]) g0 b0 (by rw [la1]; omega) c0 (by
        show (batL (kA b) (kQ b) i ++ (if i = 0 then [] else [32])) ++ repL (kA b) (kQ b) i = _
        rw [if_neg q])
      refine ⟨f', ?_, k11, k12, k13⟩
      rw [e321_9]
      simp (disch := omega) only [S.f, S.cw (show 2 < 169 by decide), g2, hin, q, a0, k1, k2, k3, k4, k5, k6, k7, k8, k9, k10, cond_true, cond_false, bI_ok, bI_er, bV_ok, bV_er, bR_ok, bR_er, bD_ok, bD_er, bF_ok, bF_er, thr_ap, cl_nI, lt_nI, le_nI, eq_nI, m1_lt, nI_m1, m1_nI, nI_lt_m1, add_nI, sub_nI, addm_nI, z_addm, z_subm, mul_nI, fit1_0, fit1_1, fit2_n, HI_wI, HK_wI, HL_wI, HR_wI, ckK_wI, chI_wI, sI_wI, wI_wI, lz0, lz1, lz2, lz3, lz4, lz5, lz6, lz7, lz8, lz9, lz10, lz12, lz13, lz16, lz17, lz20, lz21, lz23, lz26, lz30, lz32, lz35, lz40, lz45, lz48, lz57, lz58, lz59, lz60, lz61, lz63, lz64, lz97, lz99, lz100, lz110, lz111, lz126, lz129, lz132, lz133, lz166, lz169, lz255, lz999, lz1183, lz1800, Nat.reduceAdd, Nat.reduceLT, Nat.reduceEqDiff, Nat.not_lt_zero, Nat.lt_irrefl, ↓reduceIte, Nat.zero_add, Nat.add_zero, ne_eq, not_true_eq_false, not_false_eq_true, reduceCtorEq]
theorem batM_ok (S : MdS h) (R : RN (HI h 242) b) : ∃ f', CL 321 [.ref 241] h = some (.ok (.int (nI (batL (kA b) (kQ b) (kN b)).length)), wI h f') ∧ LI f' (batL (kA b) (kQ b) (kN b)) ∧ f' 241 16 = nI 0 ∧ FLi (HI h) f' := by
  obtain ⟨f', f1, f2, f3, f4⟩ := batM_loop S (f := u2 (HI h) 241 16 (nI 0)) (R.cong (fun y _ => w2_ne (by omega))) (kN b) 0 (u2 (HI h) 241 16 (nI 0)) (by omega) (FLi.refl _) (LM.nil _)
  refine ⟨f', ?_, f2, f3.trans (w2_eq _ _ _ _), fun a y q1 q2 => (f4 a y q1 q2).trans (w2_ne (by omega))⟩
  rw [e321]
  simp (disch := omega) only [S.f, cond_true, cond_false, bI_ok, bI_er, bV_ok, bV_er, bR_ok, bR_er, bD_ok, bD_er, bF_ok, bF_er, thr_ap, cl_nI, lt_nI, le_nI, eq_nI, m1_lt, nI_m1, m1_nI, nI_lt_m1, add_nI, sub_nI, addm_nI, z_addm, z_subm, mul_nI, fit1_0, fit1_1, fit2_n, HI_wI, HK_wI, HL_wI, HR_wI, ckK_wI, chI_wI, sI_wI, wI_wI, lz0, lz1, lz2, lz3, lz4, lz5, lz6, lz7, lz8, lz9, lz10, lz12, lz13, lz16, lz17, lz20, lz21, lz23, lz26, lz30, lz32, lz35, lz40, lz45, lz48, lz57, lz58, lz59, lz60, lz61, lz63, lz64, lz97, lz99, lz100, lz110, lz111, lz126, lz129, lz132, lz133, lz166, lz169, lz255, lz999, lz1183, lz1800, Nat.reduceAdd, Nat.reduceLT, Nat.reduceEqDiff, Nat.not_lt_zero, Nat.lt_irrefl, ↓reduceIte, Nat.zero_add, Nat.add_zero, ne_eq, not_true_eq_false, not_false_eq_true, reduceCtorEq]
  exact f1
/-- only characters under 128 -/
def Lo (L : List Nat) : Prop := ∀ c, c ∈ L → c < 128
theorem Lo.app {L M : List Nat} (H : Lo L) (K : Lo M) : Lo (L ++ M) := fun c hc => (List.mem_append.mp hc).elim (H c) (K c)
theorem Lo.one {c : Nat} (h : c < 128) : Lo [c] := fun d hd => (List.mem_singleton.mp hd) ▸ h
theorem Lo.nil : Lo [] := fun _ h => nomatch h
theorem digR_lo (v : Nat) : ∀ r, Lo (digR v r)
  | 0 => Lo.nil
  | r + 1 => by
    have : 48 + v / 10 ^ r % 10 < 128 := by
      have := Nat.mod_lt (v / 10 ^ r) (show 10 > 0 by decide)
      omega
    exact (Lo.one this).app (digR_lo v r)
theorem dig_lo (v : Nat) : Lo (dig v) := digR_lo v _
theorem recL_lo (b : Bk) {s : Nat} (hs : s < 3) (k : Nat) : Lo (recL b s k) := ((((((Lo.one (by omega)).app (dig_lo _)).app (Lo.one (by decide))).app (dig_lo _)).app (Lo.one (by decide))).app (Lo.one (by decide))).app (dig_lo _)
theorem pcs_lo (A : AF) (k : Nat) {s : Nat} (hs : s < 3) : Lo (pcs A k s) := by
  unfold pcs
  split
  · exact ((Lo.one (by decide)).app (Lo.one (by omega))).app (dig_lo _)
  · exact Lo.nil
theorem wrd_lo : (∀ c, c ∈ lws 4 0 10 → c < 128) ∧ (∀ c, c ∈ lws 6 0 11 → c < 128) ∧ ∀ c, c ∈ lws 8 0 5 → c < 128 := by decide +kernel
theorem keyL_lo (A : AF) (k : Nat) : Lo (keyL A k) := by
  have hb : Lo (keyB A k) := ((((dig_lo k).app (Lo.one (by decide))).app (pcs_lo A k (by decide))).app (pcs_lo A k (by decide))).app (pcs_lo A k (by decide))
  obtain ⟨w1, w2, w3⟩ := wrd_lo
  unfold keyL
  split
  · exact hb.app w1
  · split
    · exact (hb.app w2).app (dig_lo _)
    · exact hb.app w3
theorem batL_lo {A : AF} {Q : QF} {n : Nat} (hQ : ∀ i, i < n → (Q i).1 < 3) : ∀ i, i ≤ n → Lo (batL A Q i)
  | 0, _ => Lo.nil
  | i + 1, hi => by
    have ih := batL_lo (A := A) hQ i (by omega)
    have h1 := hQ i (by omega)
    have h2 := oc_lt A Q i
    refine (ih.app ?_).app ((((((Lo.one (by omega)).app (dig_lo _)).app (Lo.one (by decide))).app (dig_lo _)).app (Lo.one (by omega))))
    split
    · exact Lo.nil
    · exact Lo.one (by decide)
theorem goesM_ok (S : MdS h) (p : Bool) : CL 225 [.ref 241, .int (nI (b2n p))] h = some (.ok (.int (nI (b2n p))), wI h (u2 (HI h) 241 16 (nI (thN p true true)))) := goes_ok S p
theorem Lo.at {L : List Nat} (H : Lo L) {i : Nat} (hi : i < L.length) : L.getD i 0 < 128 := by
  rw [List.getD_eq_getElem?_getD, List.getElem?_eq_getElem hi]
  exact H _ (List.getElem_mem hi)
theorem lineM_t (S : MdS h) {L : List Nat} (R : LI (HI h) L) (H : Lo L) {i : Nat} (hi : i < L.length) : CL 323 [.ref 241, .int (nI i)] h = some (.ok (.int (nI (L.getD i 0))), tH h 0) := by
  have l160 := R.1.1
  have hc := H.at hi
  have e15 := R.2
  have ev := R.1.2 i hi
  have hw := isIn_ok (h := h) (nI i) (lo := 0) (hi := L.length - 1) (by decide) (by omega)
  rw [inr_nI (by omega) (by omega) (by omega), b2t] at hw
  have hg := goesM_ok S true
  rw [b2t, show thN true true true = 0 from rfl] at hg
  have e0 : tH h 0 = wI h (u2 (HI h) 241 16 (nI 0)) := rfl
  rw [e0, e323]
  simp (disch := omega) only [S.f, S.lc (show i < 160 by omega), e15, hw, hg, w2_ne, ev, i2c_nI, fit2_n, Nat.succ_ne_self, cond_true, cond_false, bI_ok, bI_er, bV_ok, bV_er, bR_ok, bR_er, bD_ok, bD_er, bF_ok, bF_er, thr_ap, cl_nI, lt_nI, le_nI, eq_nI, m1_lt, nI_m1, m1_nI, nI_lt_m1, add_nI, sub_nI, addm_nI, z_addm, z_subm, mul_nI, fit1_0, fit1_1, fit2_n, HI_wI, HK_wI, HL_wI, HR_wI, ckK_wI, chI_wI, sI_wI, wI_wI, lz0, lz1, lz2, lz3, lz4, lz5, lz6, lz7, lz8, lz9, lz10, lz12, lz13, lz16, lz17, lz20, lz21, lz23, lz26, lz30, lz32, lz35, lz40, lz45, lz48, lz57, lz58, lz59, lz60, lz61, lz63, lz64, lz97, lz99, lz100, lz110, lz111, lz126, lz129, lz132, lz133, lz166, lz169, lz255, lz999, lz1183, lz1800, Nat.reduceAdd, Nat.reduceLT, Nat.reduceEqDiff, Nat.not_lt_zero, Nat.lt_irrefl, ↓reduceIte, Nat.zero_add, Nat.add_zero, ne_eq, not_true_eq_false, not_false_eq_true, reduceCtorEq]
theorem lineM_f (S : MdS h) {L : List Nat} (R : LI (HI h) L) (x : Int32) (hx : inr 0 (L.length - 1) x = false ∨ L.length = 0) : CL 323 [.ref 241, .int x] h = some (.ok (.int (nI 0)), tH h 1) := by
  have l160 := R.1.1
  have e15 := R.2
  have hg := goesM_ok S false
  rw [b2f, show thN false true true = 1 from rfl] at hg
  have e0 : tH h 1 = wI h (u2 (HI h) 241 16 (nI 1)) := rfl
  have fc : fitc 2 (nI 0) = true := by decide
  rw [e0, e323]
  by_cases q : L.length = 0
  · have hw : CL 206 [.int x, .int (nI 0), .int (-nI 1)] h = some (.ok (.int (nI 0)), h) := by
      rw [e206]
      by_cases z : x < nI 0
      · simp (disch := omega) only [z, cond_true, cond_false, bI_ok, bI_er, bV_ok, bV_er, bR_ok, bR_er, bD_ok, bD_er, bF_ok, bF_er, thr_ap, cl_nI, lt_nI, le_nI, eq_nI, m1_lt, nI_m1, m1_nI, nI_lt_m1, add_nI, sub_nI, addm_nI, z_addm, z_subm, mul_nI, fit1_0, fit1_1, fit2_n, HI_wI, HK_wI, HL_wI, HR_wI, ckK_wI, chI_wI, sI_wI, wI_wI, lz0, lz1, lz2, lz3, lz4, lz5, lz6, lz7, lz8, lz9, lz10, lz12, lz13, lz16, lz17, lz20, lz21, lz23, lz26, lz30, lz32, lz35, lz40, lz45, lz48, lz57, lz58, lz59, lz60, lz61, lz63, lz64, lz97, lz99, lz100, lz110, lz111, lz126, lz129, lz132, lz133, lz166, lz169, lz255, lz999, lz1183, lz1800, Nat.reduceAdd, Nat.reduceLT, Nat.reduceEqDiff, Nat.not_lt_zero, Nat.lt_irrefl, ↓reduceIte, Nat.zero_add, Nat.add_zero, ne_eq, not_true_eq_false, not_false_eq_true, reduceCtorEq]
      · have z2 : (-nI 1 : Int32) < x := by
          have h2 : ((-nI 1 : Int32)).toInt = -1 := by decide
          have h3 : ((nI 0 : Int32)).toInt = 0 := by decide
          rw [Int32.lt_iff_toInt_lt, h3] at z
          rw [Int32.lt_iff_toInt_lt, h2]
          omega
        simp (disch := omega) only [z, z2, cond_true, cond_false, bI_ok, bI_er, bV_ok, bV_er, bR_ok, bR_er, bD_ok, bD_er, bF_ok, bF_er, thr_ap, cl_nI, lt_nI, le_nI, eq_nI, m1_lt, nI_m1, m1_nI, nI_lt_m1, add_nI, sub_nI, addm_nI, z_addm, z_subm, mul_nI, fit1_0, fit1_1, fit2_n, HI_wI, HK_wI, HL_wI, HR_wI, ckK_wI, chI_wI, sI_wI, wI_wI, lz0, lz1, lz2, lz3, lz4, lz5, lz6, lz7, lz8, lz9, lz10, lz12, lz13, lz16, lz17, lz20, lz21, lz23, lz26, lz30, lz32, lz35, lz40, lz45, lz48, lz57, lz58, lz59, lz60, lz61, lz63, lz64, lz97, lz99, lz100, lz110, lz111, lz126, lz129, lz132, lz133, lz166, lz169, lz255, lz999, lz1183, lz1800, Nat.reduceAdd, Nat.reduceLT, Nat.reduceEqDiff, Nat.not_lt_zero, Nat.lt_irrefl, ↓reduceIte, Nat.zero_add, Nat.add_zero, ne_eq, not_true_eq_false, not_false_eq_true, reduceCtorEq]
    rw [q] at e15
    simp (disch := omega) only [S.f, e15, z_subm, hw, hg, fc, cond_true, cond_false, bI_ok, bI_er, bV_ok, bV_er, bR_ok, bR_er, bD_ok, bD_er, bF_ok, bF_er, thr_ap, cl_nI, lt_nI, le_nI, eq_nI, m1_lt, nI_m1, m1_nI, nI_lt_m1, add_nI, sub_nI, addm_nI, z_addm, z_subm, mul_nI, fit1_0, fit1_1, fit2_n, HI_wI, HK_wI, HL_wI, HR_wI, ckK_wI, chI_wI, sI_wI, wI_wI, lz0, lz1, lz2, lz3, lz4, lz5, lz6, lz7, lz8, lz9, lz10, lz12, lz13, lz16, lz17, lz20, lz21, lz23, lz26, lz30, lz32, lz35, lz40, lz45, lz48, lz57, lz58, lz59, lz60, lz61, lz63, lz64, lz97, lz99, lz100, lz110, lz111, lz126, lz129, lz132, lz133, lz166, lz169, lz255, lz999, lz1183, lz1800, Nat.reduceAdd, Nat.reduceLT, Nat.reduceEqDiff, Nat.not_lt_zero, Nat.lt_irrefl, ↓reduceIte, Nat.zero_add, Nat.add_zero, ne_eq, not_true_eq_false, not_false_eq_true, reduceCtorEq]
  · have hx' : inr 0 (L.length - 1) x = false := hx.elim id (fun z => absurd z q)
    have hw := isIn_ok (h := h) x (lo := 0) (hi := L.length - 1) (by decide) (by omega)
    rw [hx', b2f] at hw
    simp (disch := omega) only [S.f, e15, hw, hg, fc, cond_true, cond_false, bI_ok, bI_er, bV_ok, bV_er, bR_ok, bR_er, bD_ok, bD_er, bF_ok, bF_er, thr_ap, cl_nI, lt_nI, le_nI, eq_nI, m1_lt, nI_m1, m1_nI, nI_lt_m1, add_nI, sub_nI, addm_nI, z_addm, z_subm, mul_nI, fit1_0, fit1_1, fit2_n, HI_wI, HK_wI, HL_wI, HR_wI, ckK_wI, chI_wI, sI_wI, wI_wI, lz0, lz1, lz2, lz3, lz4, lz5, lz6, lz7, lz8, lz9, lz10, lz12, lz13, lz16, lz17, lz20, lz21, lz23, lz26, lz30, lz32, lz35, lz40, lz45, lz48, lz57, lz58, lz59, lz60, lz61, lz63, lz64, lz97, lz99, lz100, lz110, lz111, lz126, lz129, lz132, lz133, lz166, lz169, lz255, lz999, lz1183, lz1800, Nat.reduceAdd, Nat.reduceLT, Nat.reduceEqDiff, Nat.not_lt_zero, Nat.lt_irrefl, ↓reduceIte, Nat.zero_add, Nat.add_zero, ne_eq, not_true_eq_false, not_false_eq_true, reduceCtorEq]
end LQ4
