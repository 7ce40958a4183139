/-! THE REFERENCE: run and append -/
def FRm (f f' : Nat → Nat → Int32) : Prop := ∀ a y, a ≠ 242 → a ≠ 243 → a ≠ 245 → a ≠ 252 → ¬(a = 241 ∧ (5 ≤ y ∧ y ≤ 7 ∨ y = 13 ∨ 16 ≤ y ∧ y ≤ 20)) → f' a y = f a y
section RM5
variable {h : Hp} {x : Nat → Nat} {n : Nat}
theorem runM_loop (S : MdS h) {f : Nat → Nat → Int32} {b : Bk} {y : Nat} (hB : Bd b y) (hy : y + 6000 < 1000000000) {m : Nat} {H : HF} (G : RG f m H) (Rb : RN (f 243) b) {C : Nat → Cm} {t : Nat} (ht : t < 30) (hC : ∀ j, j < t → CmM f j (C j)) (hok : ∀ j, j < t → okC (C j)) (ht20 : f 241 20 = nI t) : ∀ (k i : Nat) (g : Nat → Nat → Int32) (v : Value), i + k = t → RN (g 242) (bsq b C i) → Bd (bsq b C i) (y + 100 * i) → g 241 16 = nI 0 → (∀ a z, a ≠ 242 → ¬(a = 241 ∧ z = 16) → g a z = f a z) → (∀ j, j < i → flC b C j = 0) → (∀ i', fai b C t = some i' → ∃ f', RF 334 38 [.ref 241, .int (nI i), v] [] (wI h g) = some (.ok (.int (nI 0)), wI h f') ∧ RN (f' 242) b ∧ f' 241 16 = nI 2 ∧ f' 241 7 = nI i' ∧ ∀ a z, a ≠ 242 → ¬(a = 241 ∧ (z = 16 ∨ z = 7)) → f' a z = f a z) ∧ (fai b C t = none → ∃ f', RF 334 38 [.ref 241, .int (nI i), v] [] (wI h g) = some (.ok (.int (nI t)), wI h f') ∧ RN (f' 242) (bsq b C t) ∧ RG f' (if m < 8 then m + 1 else 8) (puH b H) ∧ f' 241 16 = nI 0 ∧ ∀ a z, a ≠ 242 → a ≠ 245 → ¬(a = 241 ∧ (z = 16 ∨ z = 5)) → f' a z = f a z) := by
  intro k
  induction k with
  | zero =>
    intro i g v hk hR hBi h16 hfr hno
    have e : i = t := by omega
    subst e
    have hf : fai b C i = none := fst_none.mpr (fun j hj => decide_eq_false (fun q => q (hno j hj)))
    refine ⟨fun i' hi' => (by rw [hf] at hi'; cases hi'), fun _ => ?_⟩
    have g20 : g 241 20 = nI i := (hfr 241 20 (by omega) (by omega)).trans ht20
    have Gg : RG g m H := ⟨G.1, (hfr 241 5 (by omega) (by omega)).trans G.2.1, fun j hj => (G.2.2 j hj).cong (fun z hz => hfr 245 _ (by omega) (by omega))⟩
    obtain ⟨f', f1, f2, f3⟩ := ends_t (S.wI g) (nI i) h16 (Rb.cong (fun z hz => hfr 243 z (by omega) (by omega))) Gg
    rw [wI_wI] at f1
    rw [HI_wI] at f3
    refine ⟨f', ?_, hR.cong (fun z hz => f3 242 z (by omega) (by omega)), f2, (f3 241 16 (by omega) (by omega)).trans h16, fun a z q1 q2 q3 => (f3 a z q2 (by omega)).trans (hfr a z q1 (by omega))⟩
    rw [e334_38]
    simp (disch := omega) only [S.f, g20, f1, cond_true, cond_false, bI_ok, bI_er, bV_ok, bV_er, bR_ok, bR_er, bD_ok, bD_er, bF_ok, bF_er, thr_ap, cl_nI, lt_nI, le_nI, eq_nI, m1_lt, nI_m1, m1_nI, nI_lt_m1, add_nI, sub_nI, addm_nI, z_addm, z_subm, mul_nI, fit1_0, fit1_1, fit2_n, HI_wI, HK_wI, HL_wI, HR_wI, ckK_wI, chI_wI, sI_wI, wI_wI, lz0, lz1, lz2, lz3, lz4, lz5, lz6, lz7, lz8, lz9, lz10, lz12, lz13, lz16, lz17, lz20, lz21, lz23, lz26, lz30, lz32, lz35, lz40, lz45, lz48, lz57, lz58, lz59, lz60, lz61, lz63, lz64, lz97, lz99, lz100, lz110, lz111, lz126, lz129, lz132, lz133, lz166, lz169, lz255, lz999, lz1183, lz1800, Nat.reduceAdd, Nat.reduceLT, Nat.reduceEqDiff, Nat.not_lt_zero, Nat.lt_irrefl, ↓reduceIte, Nat.zero_add, Nat.add_zero, ne_eq, not_true_eq_false, not_false_eq_true, reduceCtorEq]
  | succ k ih =>
    intro i g v hk hR hBi h16 hfr hno
    have hi : i < t := by omega
    have g20 : g 241 20 = nI t := (hfr 241 20 (by omega) (by omega)).trans ht20
    have hCi : CmM g i ((C i).1, (C i).2.1, (C i).2.2.1, (C i).2.2.2) := (hC i hi).cong (fun z _ _ => hfr 252 z (by omega) (by omega))
    obtain ⟨o1, o2, o3, o4⟩ := hok i hi
    by_cases q : flC b C i = 0
    · obtain ⟨f1, k1, k2, k3, k4⟩ := opM_go (h := wI h g) (S.wI g) hR hBi (by omega) o1 o2 o3 (nI (C i).2.2.2) q
      rw [wI_wI] at k1
      rw [HI_wI] at k4
      rw [cl_nI (by omega)] at k1 k2
      have hd := does_ok S (by omega) hCi o1 k1
      have hB' := hBi.eff (j := (C i).1) (s := (C i).2.1) (k := (C i).2.2.1) (a := (C i).2.2.2) (by omega) hR.q.1
      have e : RF 334 38 [.ref 241, .int (nI i), v] [] (wI h g) = RF 334 38 [.ref 241, .int (nI (i + 1)), .int (nI (ansB (bsq b C i) (C i).1 (C i).2.1 (C i).2.2.1 (C i).2.2.2))] [] (wI h f1) := by
        rw [e334_38]
        simp (disch := omega) only [S.f, g20, hi, hd, k3, cond_true, cond_false, bI_ok, bI_er, bV_ok, bV_er, bR_ok, bR_er, bD_ok, bD_er, bF_ok, bF_er, thr_ap, cl_nI, lt_nI, le_nI, eq_nI, m1_lt, nI_m1, m1_nI, nI_lt_m1, add_nI, sub_nI, addm_nI, z_addm, z_subm, mul_nI, fit1_0, fit1_1, fit2_n, HI_wI, HK_wI, HL_wI, HR_wI, ckK_wI, chI_wI, sI_wI, wI_wI, lz0, lz1, lz2, lz3, lz4, lz5, lz6, lz7, lz8, lz9, lz10, lz12, lz13, lz16, lz17, lz20, lz21, lz23, lz26, lz30, lz32, lz35, lz40, lz45, lz48, lz57, lz58, lz59, lz60, lz61, lz63, lz64, lz97, lz99, lz100, lz110, lz111, lz126, lz129, lz132, lz133, lz166, lz169, lz255, lz999, lz1183, lz1800, Nat.reduceAdd, Nat.reduceLT, Nat.reduceEqDiff, Nat.not_lt_zero, Nat.lt_irrefl, ↓reduceIte, Nat.zero_add, Nat.add_zero, ne_eq, not_true_eq_false, not_false_eq_true, reduceCtorEq]
      rw [e]
      exact ih (i + 1) f1 _ (by omega) k2 ⟨fun j hj => Nat.le_trans (hB'.1 j hj) (by omega), Nat.le_trans hB'.2 (by omega)⟩ k3 (fun a z q1 q2 => (k4 a z q1 q2).trans (hfr a z q1 q2)) (fun j hj => by
        by_cases z : j = i
        · rw [z]
          exact q
        · exact hno j (by omega))
    · have hf : fai b C t = some i := fst_some.mpr ⟨hi, decide_eq_true q, fun j hj => decide_eq_false (fun z => z (hno j hj))⟩
      refine ⟨fun i' hi' => ?_, fun hn => by rw [hf] at hn; cases hn⟩
      rw [hf] at hi'
      injection hi' with hi'
      subst hi'
      obtain ⟨v', f1, k1, k2, k3⟩ := opM_flt (h := wI h g) (S.wI g) hR o1 o2 o3 (nI (C i).2.2.2) q
      rw [wI_wI] at k1
      rw [HI_wI] at k3
      have hd := does_ok S (by omega) hCi o1 k1
      obtain ⟨t1, t2⟩ := thM_pos (j := (C i).1) (fl := flB (bsq b C i) (C i).1 (C i).2.1 (C i).2.2.1 (nI (C i).2.2.2)) q (flB_lt (bsq b C i) (C i).1 (C i).2.1 (C i).2.2.1 (nI (C i).2.2.2))
      have q' : ¬(flB (bsq b C i) (C i).1 (C i).2.1 (C i).2.2.1 (nI (C i).2.2.2) = 0) := q
      have t0 : ¬(thM (C i).1 (flB (bsq b C i) (C i).1 (C i).2.1 (C i).2.2.1 (nI (C i).2.2.2)) = 0) := by omega
      have hc := copies_ok (h := wI h (u2 (u2 f1 241 7 (nI i)) 241 16 (nI 2))) (src := 243) (dst := 242) (a := 0) (c := 0) S.2.2.2.1 S.2.2.1 (by decide) (by decide) (by decide) (by decide) (by decide)
      rw [HI_wI, wI_wI] at hc
      have hfr2 : ∀ a z, a ≠ 242 → ¬(a = 241 ∧ (z = 16 ∨ z = 7)) → u2 (u2 f1 241 7 (nI i)) 241 16 (nI 2) a z = f a z := fun a z q1 q2 => by
        rw [w2_ne (by omega), w2_ne (by omega), k3 a z q1 (by omega)]
        exact hfr a z q1 (by omega)
      refine ⟨bcF (u2 (u2 f1 241 7 (nI i)) 241 16 (nI 2)) 243 0 242 0 169, ?_, Rb.cong (fun k hk => ?_), (bcF_o (by decide) 16).trans (w2_eq _ _ _ _), (bcF_o (by decide) 7).trans ((w2_ne (by omega)).trans (w2_eq _ _ _ _)), fun a z q1 q2 => (bcF_o q1 z).trans (hfr2 a z q1 q2)⟩
      · rw [e334_38]
        simp (disch := omega) only [S.f, g20, hi, hd, k2, t0, hc, cond_true, cond_false, bI_ok, bI_er, bV_ok, bV_er, bR_ok, bR_er, bD_ok, bD_er, bF_ok, bF_er, thr_ap, cl_nI, lt_nI, le_nI, eq_nI, m1_lt, nI_m1, m1_nI, nI_lt_m1, add_nI, sub_nI, addm_nI, z_addm, z_subm, mul_nI, fit1_0, fit1_1, fit2_n, HI_wI, HK_wI, HL_wI, HR_wI, ckK_wI, chI_wI, sI_wI, wI_wI, lz0, lz1, lz2, lz3, lz4, lz5, lz6, lz7, lz8, lz9, lz10, lz12, lz13, lz16, lz17, lz20, lz21, lz23, lz26, lz30, lz32, lz35, lz40, lz45, lz48, lz57, lz58, lz59, lz60, lz61, lz63, lz64, lz97, lz99, lz100, lz110, lz111, lz126, lz129, lz132, lz133, lz166, lz169, lz255, lz999, lz1183, lz1800, Nat.reduceAdd, Nat.reduceLT, Nat.reduceEqDiff, Nat.not_lt_zero, Nat.lt_irrefl, ↓reduceIte, Nat.zero_add, Nat.add_zero, ne_eq, not_true_eq_false, not_false_eq_true, reduceCtorEq]
      · have := bcF_t (f := u2 (u2 f1 241 7 (nI i)) 241 16 (nI 2)) (src := 243) (a := 0) (dst := 242) (c := 0) hk
        rw [Nat.zero_add] at this
        rw [this]
        exact hfr2 243 k (by omega) (by omega)
theorem runM_ok (S : MdS h) (K : KoS h) {f : Nat → Nat → Int32} (F : Ko f) (T : TY f x n) (C0 : Nat → Cm) {N : Nat} (hN : N = 60) {b : Bk} (R : RN (f 242) b) {y : Nat} (hB : Bd b y) (hy : y + 6000 < 1000000000) {m : Nat} {H : HF} (G : RG f m H) : (∀ e, prsA x n N 0 0 C0 = .error e → ∃ f', CL 334 [.ref 241] (wI h f) = some (.ok (.int (nI 0)), wI h f') ∧ RN (f' 242) b ∧ RG f' m H ∧ f' 241 16 = nI 1 ∧ f' 241 6 = nI e ∧ f' 241 7 = f 241 7 ∧ f' 241 13 = nI 0 ∧ FRm f f') ∧ ∀ r, prsA x n N 0 0 C0 = .ok r → (∀ i, fai b r.2 r.1 = some i → ∃ f', CL 334 [.ref 241] (wI h f) = some (.ok (.int (nI 0)), wI h f') ∧ RN (f' 242) b ∧ RG f' m H ∧ f' 241 16 = nI 2 ∧ f' 241 6 = f 241 6 ∧ f' 241 7 = nI i ∧ f' 241 13 = nI 0 ∧ FRm f f') ∧ (fai b r.2 r.1 = none → ∃ f', CL 334 [.ref 241] (wI h f) = some (.ok (.int (nI r.1)), wI h f') ∧ RN (f' 242) (bsq b r.2 r.1) ∧ RG f' (if m < 8 then m + 1 else 8) (puH b H) ∧ f' 241 16 = nI 0 ∧ f' 241 6 = f 241 6 ∧ f' 241 7 = f 241 7 ∧ f' 241 13 = nI 0 ∧ FRm f f') := by
  obtain ⟨p1, p2⟩ := readsAll_ok S K F T C0 hN
  have n60 := T.2.1
  obtain ⟨b1, b2⟩ := prsA_b (x := x) (n := n) N 0 0 C0 (Nat.zero_le n) (fun j hj => absurd hj (Nat.not_lt_zero j))
  refine ⟨fun e he => ?_, fun r hr => ?_⟩
  · obtain ⟨f1, k1, k2, k3, k4⟩ := p1 e he
    have hen := b1 e he
    have hfr : ∀ a z, a ≠ 252 → ¬(a = 241 ∧ (z = 6 ∨ z = 13 ∨ 16 ≤ z ∧ z ≤ 20)) → u2 (u2 f1 241 6 (nI e)) 241 16 (nI 1) a z = f a z := fun a z q1 q2 => by
      rw [w2_ne (by omega), w2_ne (by omega), k4 a z (by omega) q1]
    refine ⟨u2 (u2 f1 241 6 (nI e)) 241 16 (nI 1), ?_, R.cong (fun k hk => hfr 242 k (by omega) (by omega)), ⟨G.1, (hfr 241 5 (by omega) (by omega)).trans G.2.1, fun j hj => (G.2.2 j hj).cong (fun z hz => hfr 245 _ (by omega) (by omega))⟩, w2_eq _ _ _ _, by rw [w2_ne (by omega), w2_eq], hfr 241 7 (by omega) (by omega), by rw [w2_ne (by omega), w2_ne (by omega)]; exact k3, fun a z q1 q2 q3 q4 q5 => hfr a z q4 (by omega)⟩
    rw [e334]
    simp (disch := omega) only [S.f, k1, k2, nI_ne_m1 (show e < 2147483648 by omega), cond_true, cond_false, bI_ok, bI_er, bV_ok, bV_er, bR_ok, bR_er, bD_ok, bD_er, bF_ok, bF_er, thr_ap, cl_nI, lt_nI, le_nI, eq_nI, m1_lt, nI_m1, m1_nI, nI_lt_m1, add_nI, sub_nI, addm_nI, z_addm, z_subm, mul_nI, fit1_0, fit1_1, fit2_n, HI_wI, HK_wI, HL_wI, HR_wI, ckK_wI, chI_wI, sI_wI, wI_wI, lz0, lz1, lz2, lz3, lz4, lz5, lz6, lz7, lz8, lz9, lz10, lz12, lz13, lz16, lz17, lz20, lz21, lz23, lz26, lz30, lz32, lz35, lz40, lz45, lz48, lz57, lz58, lz59, lz60, lz61, lz63, lz64, lz97, lz99, lz100, lz110, lz111, lz126, lz129, lz132, lz133, lz166, lz169, lz255, lz999, lz1183, lz1800, Nat.reduceAdd, Nat.reduceLT, Nat.reduceEqDiff, Nat.not_lt_zero, Nat.lt_irrefl, ↓reduceIte, Nat.zero_add, Nat.add_zero, ne_eq, not_true_eq_false, not_false_eq_true, reduceCtorEq]
  · obtain ⟨f1, k1, k2, k3, k4, k5, k6⟩ := p2 r hr
    obtain ⟨y1, y2, y3, y4⟩ := b2 r hr
    have hb := begins_ok (S.wI f1)
    rw [HI_wI, wI_wI] at hb
    have hfr : ∀ a z, a ≠ 252 → a ≠ 243 → ¬(a = 241 ∧ (z = 13 ∨ 16 ≤ z ∧ z ≤ 20)) → u2 (bcF f1 242 0 243 0 169) 241 16 (nI 0) a z = f a z := fun a z q1 q2 q3 => by
      rw [w2_ne (by omega), bcF_o q2, k6 a z (by omega) q1]
    have hfr1 : ∀ a z, a ≠ 243 → ¬(a = 241 ∧ z = 16) → u2 (bcF f1 242 0 243 0 169) 241 16 (nI 0) a z = f1 a z := fun a z q1 q2 => by
      rw [w2_ne (by omega), bcF_o q1]
    have Rf1 : RN (f1 242) b := R.cong (fun k hk => k6 242 k (by omega) (by omega))
    have R3 : RN (u2 (bcF f1 242 0 243 0 169) 241 16 (nI 0) 243) b := Rf1.beg.2.cong (fun k hk => w2_ne (by omega))
    have R2 : RN (u2 (bcF f1 242 0 243 0 169) 241 16 (nI 0) 242) b := Rf1.cong (fun k hk => hfr1 242 k (by omega) (by omega))
    have G1 : RG (u2 (bcF f1 242 0 243 0 169) 241 16 (nI 0)) m H := ⟨G.1, (hfr 241 5 (by omega) (by omega) (by omega)).trans G.2.1, fun j hj => (G.2.2 j hj).cong (fun z hz => hfr 245 _ (by omega) (by omega) (by omega))⟩
    have hC1 : ∀ j, j < r.1 → CmM (u2 (bcF f1 242 0 243 0 169) 241 16 (nI 0)) j (r.2 j) := fun j hj => (k4 j hj).cong (fun z _ _ => hfr1 252 z (by omega) (by omega))
    have g20 : u2 (bcF f1 242 0 243 0 169) 241 16 (nI 0) 241 20 = nI r.1 := (hfr1 241 20 (by omega) (by omega)).trans k3
    have g13 : u2 (bcF f1 242 0 243 0 169) 241 16 (nI 0) 241 13 = nI 0 := (hfr1 241 13 (by omega) (by omega)).trans k5
    have g16 : u2 (bcF f1 242 0 243 0 169) 241 16 (nI 0) 241 16 = nI 0 := w2_eq _ _ _ _
    have e : CL 334 [.ref 241] (wI h f) = RF 334 38 [.ref 241, .int (nI 0), .null] [] (wI h (u2 (bcF f1 242 0 243 0 169) 241 16 (nI 0))) := by
      rw [e334]
      simp (disch := omega) only [S.f, k1, k2, hb, cond_true, cond_false, bI_ok, bI_er, bV_ok, bV_er, bR_ok, bR_er, bD_ok, bD_er, bF_ok, bF_er, thr_ap, cl_nI, lt_nI, le_nI, eq_nI, m1_lt, nI_m1, m1_nI, nI_lt_m1, add_nI, sub_nI, addm_nI, z_addm, z_subm, mul_nI, fit1_0, fit1_1, fit2_n, HI_wI, HK_wI, HL_wI, HR_wI, ckK_wI, chI_wI, sI_wI, wI_wI, lz0, lz1, lz2, lz3, lz4, lz5, lz6, lz7, lz8, lz9, lz10, lz12, lz13, lz16, lz17, lz20, lz21, lz23, lz26, lz30, lz32, lz35, lz40, lz45, lz48, lz57, lz58, lz59, lz60, lz61, lz63, lz64, lz97, lz99, lz100, lz110, lz111, lz126, lz129, lz132, lz133, lz166, lz169, lz255, lz999, lz1183, lz1800, Nat.reduceAdd, Nat.reduceLT, Nat.reduceEqDiff, Nat.not_lt_zero, Nat.lt_irrefl, ↓reduceIte, Nat.zero_add, Nat.add_zero, ne_eq, not_true_eq_false, not_false_eq_true, reduceCtorEq]
    rw [e]
    generalize u2 (bcF f1 242 0 243 0 169) 241 16 (nI 0) = g at *
    obtain ⟨l1, l2⟩ := runM_loop S hB hy G1 R3 (C := r.2) (t := r.1) (by omega) hC1 y3 g20 r.1 0 g .null (by omega) R2 hB g16 (fun _ _ _ _ => rfl) (fun j hj => absurd hj (Nat.not_lt_zero j))
    refine ⟨fun i hi => ?_, fun hi => ?_⟩
    · obtain ⟨f', z1, z2, z3, z4, z5⟩ := l1 i hi
      exact ⟨f', z1, z2, ⟨G1.1, (z5 241 5 (by omega) (by omega)).trans G1.2.1, fun j hj => (G1.2.2 j hj).cong (fun z hz => z5 245 _ (by omega) (by omega))⟩, z3, (z5 241 6 (by omega) (by omega)).trans (hfr 241 6 (by omega) (by omega) (by omega)), z4, (z5 241 13 (by omega) (by omega)).trans g13, fun a z q1 q2 q3 q4 q5 => (z5 a z q1 (by omega)).trans (hfr a z q4 q2 (by omega))⟩
    · obtain ⟨f', z1, z2, z3, z4, z5⟩ := l2 hi
      exact ⟨f', z1, z2, z3, z4, (z5 241 6 (by omega) (by omega) (by omega)).trans (hfr 241 6 (by omega) (by omega) (by omega)), (z5 241 7 (by omega) (by omega) (by omega)).trans (hfr 241 7 (by omega) (by omega) (by omega)), (z5 241 13 (by omega) (by omega) (by omega)).trans g13, fun a z q1 q2 q3 q4 q5 => (z5 a z q1 q3 (by omega)).trans (hfr a z q4 q2 (by omega))⟩
theorem appendM_f (S : MdS h) (c : Int32) {f : Nat → Nat → Int32} (T : TY f x n) (hc : inr 32 126 c = false) : CL 324 [.ref 241, .int c] (wI h f) = some (.ok (.int (nI 0)), wI h (u2 f 241 16 (nI 1))) := by
  have t1 := T.1
  have t2 := T.2.1
  have hi1 := isIn_ok (h := wI h f) c (lo := 32) (hi := 126) (by decide) (by decide)
  rw [hc, b2f] at hi1
  have hg1 := holds_ok (S.wI f) false true true
  have hg2 := holds_ok (S.wI f) false false true
  rw [HI_wI, wI_wI, b2f, b2t, show thN false true true = 1 from rfl, show b2n (decide (1 = 0)) = 0 from rfl] at hg1
  rw [HI_wI, wI_wI, b2f, b2t, show thN false false true = 1 from rfl, show b2n (decide (1 = 0)) = 0 from rfl] at hg2
  rw [e324]
  by_cases q : n < 60
  · simp (disch := omega) only [S.f, hi1, t1, q, hg1, Nat.succ_ne_self, cond_true, cond_false, bI_ok, bI_er, bV_ok, bV_er, bR_ok, bR_er, bD_ok, bD_er, bF_ok, bF_er, thr_ap, cl_nI, lt_nI, le_nI, eq_nI, m1_lt, nI_m1, m1_nI, nI_lt_m1, add_nI, sub_nI, addm_nI, z_addm, z_subm, mul_nI, fit1_0, fit1_1, fit2_n, HI_wI, HK_wI, HL_wI, HR_wI, ckK_wI, chI_wI, sI_wI, wI_wI, lz0, lz1, lz2, lz3, lz4, lz5, lz6, lz7, lz8, lz9, lz10, lz12, lz13, lz16, lz17, lz20, lz21, lz23, lz26, lz30, lz32, lz35, lz40, lz45, lz48, lz57, lz58, lz59, lz60, lz61, lz63, lz64, lz97, lz99, lz100, lz110, lz111, lz126, lz129, lz132, lz133, lz166, lz169, lz255, lz999, lz1183, lz1800, Nat.reduceAdd, Nat.reduceLT, Nat.reduceEqDiff, Nat.not_lt_zero, Nat.lt_irrefl, ↓reduceIte, Nat.zero_add, Nat.add_zero, ne_eq, not_true_eq_false, not_false_eq_true, reduceCtorEq]
  · simp (disch := omega) only [S.f, hi1, t1, q, hg2, Nat.succ_ne_self, cond_true, cond_false, bI_ok, bI_er, bV_ok, bV_er, bR_ok, bR_er, bD_ok, bD_er, bF_ok, bF_er, thr_ap, cl_nI, lt_nI, le_nI, eq_nI, m1_lt, nI_m1, m1_nI, nI_lt_m1, add_nI, sub_nI, addm_nI, z_addm, z_subm, mul_nI, fit1_0, fit1_1, fit2_n, HI_wI, HK_wI, HL_wI, HR_wI, ckK_wI, chI_wI, sI_wI, wI_wI, lz0, lz1, lz2, lz3, lz4, lz5, lz6, lz7, lz8, lz9, lz10, lz12, lz13, lz16, lz17, lz20, lz21, lz23, lz26, lz30, lz32, lz35, lz40, lz45, lz48, lz57, lz58, lz59, lz60, lz61, lz63, lz64, lz97, lz99, lz100, lz110, lz111, lz126, lz129, lz132, lz133, lz166, lz169, lz255, lz999, lz1183, lz1800, Nat.reduceAdd, Nat.reduceLT, Nat.reduceEqDiff, Nat.not_lt_zero, Nat.lt_irrefl, ↓reduceIte, Nat.zero_add, Nat.add_zero, ne_eq, not_true_eq_false, not_false_eq_true, reduceCtorEq]
theorem appendM_n (S : MdS h) {f : Nat → Nat → Int32} (T : TY f x n) {c : Nat} (h1 : 32 ≤ c) (h2 : c ≤ 126) (hn : ¬(n < 60)) : CL 324 [.ref 241, .int (nI c)] (wI h f) = some (.ok (.int (nI 0)), wI h (u2 f 241 16 (nI 2))) := by
  have t1 := T.1
  have t2 := T.2.1
  have hi1 := isIn_ok (h := wI h f) (nI c) (lo := 32) (hi := 126) (by decide) (by decide)
  rw [inr_nI h1 h2 (by decide), b2t] at hi1
  have hg2 := holds_ok (S.wI f) true false true
  rw [HI_wI, wI_wI, b2f, b2t, show thN true false true = 2 from rfl, show b2n (decide (2 = 0)) = 0 from rfl] at hg2
  rw [e324]
  simp (disch := omega) only [S.f, hi1, t1, hn, hg2, Nat.succ_ne_self, cond_true, cond_false, bI_ok, bI_er, bV_ok, bV_er, bR_ok, bR_er, bD_ok, bD_er, bF_ok, bF_er, thr_ap, cl_nI, lt_nI, le_nI, eq_nI, m1_lt, nI_m1, m1_nI, nI_lt_m1, add_nI, sub_nI, addm_nI, z_addm, z_subm, mul_nI, fit1_0, fit1_1, fit2_n, HI_wI, HK_wI, HL_wI, HR_wI, ckK_wI, chI_wI, sI_wI, wI_wI, lz0, lz1, lz2, lz3, lz4, lz5, lz6, lz7, lz8, lz9, lz10, lz12, lz13, lz16, lz17, lz20, lz21, lz23, lz26, lz30, lz32, lz35, lz40, lz45, lz48, lz57, lz58, lz59, lz60, lz61, lz63, lz64, lz97, lz99, lz100, lz110, lz111, lz126, lz129, lz132, lz133, lz166, lz169, lz255, lz999, lz1183, lz1800, Nat.reduceAdd, Nat.reduceLT, Nat.reduceEqDiff, Nat.not_lt_zero, Nat.lt_irrefl, ↓reduceIte, Nat.zero_add, Nat.add_zero, ne_eq, not_true_eq_false, not_false_eq_true, reduceCtorEq]
theorem appendM_t (S : MdS h) {f : Nat → Nat → Int32} (T : TY f x n) {c : Nat} (h1 : 32 ≤ c) (h2 : c ≤ 126) (hn : n < 60) : ∃ f', CL 324 [.ref 241, .int (nI c)] (wI h f) = some (.ok (.int (nI (n + 1))), wI h f') ∧ TY f' (ud x n c) (n + 1) ∧ f' 241 16 = nI 0 ∧ ∀ a y, ¬(a = 241 ∧ (y = 13 ∨ y = 16)) → a ≠ 250 → f' a y = f a y := by
  obtain ⟨t1, t2, t3⟩ := T
  have hi1 := isIn_ok (h := wI h f) (nI c) (lo := 32) (hi := 126) (by decide) (by decide)
  rw [inr_nI h1 h2 (by decide), b2t] at hi1
  have hg2 := holds_ok (S.wI f) true true true
  rw [HI_wI, wI_wI, b2t, show thN true true true = 0 from rfl, show b2n (decide (0 = 0)) = 1 from rfl] at hg2
  refine ⟨u2 (u2 (u2 f 241 16 (nI 0)) 250 n (nI c)) 241 13 (nI (n + 1)), ?_, ⟨w2_eq _ _ _ _, by omega, fun i hi => ?_⟩, by rw [w2_ne (by omega), w2_ne (by omega), w2_eq], fun a y q1 q2 => by rw [w2_ne (by omega), w2_ne (by omega), w2_ne (by omega)]⟩
  · rw [e324]
    simp (disch := omega) only [S.f, S.tc hn, hi1, t1, hn, hg2, w2_ne, w2_eq, Nat.succ_ne_self, cond_true, cond_false, bI_ok, bI_er, bV_ok, bV_er, bR_ok, bR_er, bD_ok, bD_er, bF_ok, bF_er, thr_ap, cl_nI, lt_nI, le_nI, eq_nI, m1_lt, nI_m1, m1_nI, nI_lt_m1, add_nI, sub_nI, addm_nI, z_addm, z_subm, mul_nI, fit1_0, fit1_1, fit2_n, HI_wI, HK_wI, HL_wI, HR_wI, ckK_wI, chI_wI, sI_wI, wI_wI, lz0, lz1, lz2, lz3, lz4, lz5, lz6, lz7, lz8, lz9, lz10, lz12, lz13, lz16, lz17, lz20, lz21, lz23, lz26, lz30, lz32, lz35, lz40, lz45, lz48, lz57, lz58, lz59, lz60, lz61, lz63, lz64, lz97, lz99, lz100, lz110, lz111, lz126, lz129, lz132, lz133, lz166, lz169, lz255, lz999, lz1183, lz1800, Nat.reduceAdd, Nat.reduceLT, Nat.reduceEqDiff, Nat.not_lt_zero, Nat.lt_irrefl, ↓reduceIte, Nat.zero_add, Nat.add_zero, ne_eq, not_true_eq_false, not_false_eq_true, reduceCtorEq]
  · rw [w2_ne (by omega)]
    by_cases q : i = n
    · rw [q, w2_eq, ud_e]
      exact ⟨rfl, h1, h2⟩
    · rw [w2_ne (by omega), w2_ne (by omega), ud_n q]
      exact t3 i (by omega)
end RM5
