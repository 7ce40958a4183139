/-! THE REFERENCE: a program read whole, and run -/
def TY (f : Nat → Nat → Int32) (x : Nat → Nat) (n : Nat) : Prop := f 241 13 = nI n ∧ n ≤ 60 ∧ ∀ i, i < n → f 250 i = nI (x i) ∧ 32 ≤ x i ∧ x i ≤ 126
def FNA (f f' : Nat → Nat → Int32) : Prop := ∀ a y, ¬(a = 241 ∧ (y = 18 ∨ y = 19 ∨ y = 20)) → a ≠ 252 → f' a y = f a y
theorem CmM.cong {f f' : Nat → Nat → Int32} {t : Nat} {c : Cm} (H : CmM f t c) (e : ∀ y, 4 * t ≤ y → y < 4 * t + 4 → f' 252 y = f 252 y) : CmM f' t c := by
  unfold CmM at *
  rw [e (4 * t) (by omega) (by omega), e (4 * t + 1) (by omega) (by omega), e (4 * t + 2) (by omega) (by omega), e (4 * t + 3) (by omega) (by omega)]
  exact H
theorem nI_ne_m1 {e : Nat} (h : e < 2147483648) : ¬(nI e = -nI 1) := fun q => by
  have h1 := congrArg Int32.toInt q
  have h2 : ((-nI 1 : Int32)).toInt = -1 := by decide
  rw [nI_toInt (by omega), h2] at h1
  omega
section RM4
variable {h : Hp} {x : Nat → Nat} {n : Nat}
theorem TM.fa {f f' : Nat → Nat → Int32} (T : TM f x n) (H : FNA f f') : TM f' x n := ⟨(H 241 17 (by omega) (by omega)).trans T.1, T.2.1, fun i hi => by rw [H 250 i (by omega) (by omega)]; exact T.2.2 i hi⟩
theorem FN.a {t : Nat} {f f' : Nat → Nat → Int32} (H : FN t f f') : FNA f f' := fun a y h1 h2 => H a y h1 (by omega)
theorem FW.a {f f' : Nat → Nat → Int32} (H : FW f f') : FNA f f' := fun a y h1 _ => H a y (by omega)
theorem FNA.trans {f g k : Nat → Nat → Int32} (H : FNA f g) (K : FNA g k) : FNA f k := fun a y h1 h2 => (K a y h1 h2).trans (H a y h1 h2)
theorem readsLoop_ok (S : MdS h) (K : KoS h) {f : Nat → Nat → Int32} (F : Ko f) (T : TM f x n) : ∀ (k p i : Nat) (C : Nat → Cm) (g : Nat → Nat → Int32) (v : Value), i + k = 60 → p ≤ n → 5 * i ≤ p → FNA f g → g 241 18 = nI p → g 241 19 = -nI 1 → g 241 20 = nI i → (∀ j, j < i → CmM g j (C j)) → (∀ e, prsA x n k p i C = .error e → ∃ f', bV (CL 331 [.ref 241] (wI h g)) (fun h1 => RF 332 32 [.ref 241, v] [] h1) thr = some (.ok .null, wI h f') ∧ f' 241 19 = nI e ∧ FNA f f') ∧ ∀ r, prsA x n k p i C = .ok r → ∃ f', bV (CL 331 [.ref 241] (wI h g)) (fun h1 => RF 332 32 [.ref 241, v] [] h1) thr = some (.ok .null, wI h f') ∧ f' 241 19 = -nI 1 ∧ f' 241 20 = nI r.1 ∧ (∀ j, j < r.1 → CmM f' j (r.2 j)) ∧ FNA f f' := by
  have n60 := T.2.1
  intro k
  induction k with
  | zero => intro p i C g v hk hp h5; omega
  | succ k ih =>
    intro p i C g v hk hp h5 H g18 g19 g20 hC
    have Tg := T.fa H
    have Fg := F.fr (f' := g) (fun a y ha => H a y (by omega) (by omega))
    have hrc := readsCommand_ok S K Fg Tg g19 g18 hp g20 (by omega)
    unfold RmQ at hrc
    cases hq : cmdA x n p with
    | error e =>
      rw [hq] at hrc
      dsimp only at hrc
      obtain ⟨f1, k1, k2, k3, k4⟩ := hrc
      have hen := cmdA_e hp hq
      rw [prsA_e hq]
      refine ⟨fun e' he => ⟨f1, ?_, by rw [← err_inj he]; exact k2, H.trans k4.a⟩, fun r hr => by injection hr⟩
      rw [k1, bV_ok, e332_32]
      simp (disch := omega) only [S.f, k2, nI_ne_m1 (show e < 2147483648 by omega), cond_true, cond_false, bI_ok, bI_er, bV_ok, bV_er, bR_ok, bR_er, bD_ok, bD_er, bF_ok, bF_er, thr_ap, cl_nI, lt_nI, le_nI, eq_nI, m1_lt, nI_m1, m1_nI, nI_lt_m1, add_nI, sub_nI, addm_nI, z_addm, z_subm, mul_nI, fit1_0, fit1_1, fit2_n, HI_wI, HK_wI, HL_wI, HR_wI, ckK_wI, chI_wI, sI_wI, wI_wI, lz0, lz1, lz2, lz3, lz4, lz5, lz6, lz7, lz8, lz9, lz10, lz12, lz13, lz16, lz17, lz20, lz21, lz23, lz26, lz30, lz32, lz35, lz40, lz45, lz48, lz57, lz58, lz59, lz60, lz61, lz63, lz64, lz97, lz99, lz100, lz110, lz111, lz126, lz129, lz132, lz133, lz166, lz169, lz255, lz999, lz1183, lz1800, Nat.reduceAdd, Nat.reduceLT, Nat.reduceEqDiff, Nat.not_lt_zero, Nat.lt_irrefl, ↓reduceIte, Nat.zero_add, Nat.add_zero, ne_eq, not_true_eq_false, not_false_eq_true, reduceCtorEq]
    | ok r =>
      rw [hq] at hrc
      dsimp only at hrc
      obtain ⟨f1, k1, k2, k3, k4, k5, k6⟩ := hrc
      obtain ⟨b1, b2, b3⟩ := cmdA_o hp hq
      have H1 : FNA f f1 := H.trans k6.a
      have T1 := T.fa H1
      have t17 := T1.1
      have hC1 : ∀ j, j < i + 1 → CmM f1 j (ud C i r.1 j) := fun j hj => by
        by_cases z : j = i
        · rw [z, ud_e]
          exact k5
        · rw [ud_n z]
          exact (hC j (by omega)).cong (fun y y1 y2 => k6 252 y (by omega) (by omega))
      rw [prsA_o hq]
      by_cases q1 : r.2 < n
      · rw [if_pos q1]
        have hrs := reads_ok S T1 (lo := 59) (hi := 59) k3 k2 b1 (by decide) (by decide)
        by_cases q2 : x r.2 = 59
        · rw [if_pos ⟨q1, by omega, by omega⟩] at hrs
          rw [if_pos q2]
          have g9 : u2 f1 241 18 (nI (r.2 + 1)) 241 19 = -nI 1 := (w2_ne (by omega)).trans k3
          have e : bV (CL 331 [.ref 241] (wI h g)) (fun h1 => RF 332 32 [.ref 241, v] [] h1) thr = bV (CL 331 [.ref 241] (wI h (u2 f1 241 18 (nI (r.2 + 1))))) (fun h1 => RF 332 32 [.ref 241, .int (nI (x r.2))] [] h1) thr := by
            rw [k1, bV_ok, e332_32]
            simp (disch := omega) only [S.f, k3, k2, t17, q1, hrs, g9, cond_true, cond_false, bI_ok, bI_er, bV_ok, bV_er, bR_ok, bR_er, bD_ok, bD_er, bF_ok, bF_er, thr_ap, cl_nI, lt_nI, le_nI, eq_nI, m1_lt, nI_m1, m1_nI, nI_lt_m1, add_nI, sub_nI, addm_nI, z_addm, z_subm, mul_nI, fit1_0, fit1_1, fit2_n, HI_wI, HK_wI, HL_wI, HR_wI, ckK_wI, chI_wI, sI_wI, wI_wI, lz0, lz1, lz2, lz3, lz4, lz5, lz6, lz7, lz8, lz9, lz10, lz12, lz13, lz16, lz17, lz20, lz21, lz23, lz26, lz30, lz32, lz35, lz40, lz45, lz48, lz57, lz58, lz59, lz60, lz61, lz63, lz64, lz97, lz99, lz100, lz110, lz111, lz126, lz129, lz132, lz133, lz166, lz169, lz255, lz999, lz1183, lz1800, Nat.reduceAdd, Nat.reduceLT, Nat.reduceEqDiff, Nat.not_lt_zero, Nat.lt_irrefl, ↓reduceIte, Nat.zero_add, Nat.add_zero, ne_eq, not_true_eq_false, not_false_eq_true, reduceCtorEq]
          rw [e]
          exact ih (r.2 + 1) (i + 1) (ud C i r.1) _ _ (by omega) (by omega) (by omega) (fun a y h1 h2 => (w2_ne (by omega)).trans (H1 a y h1 h2)) (w2_eq _ _ _ _) g9 ((w2_ne (by omega)).trans k4) (fun j hj => (hC1 j hj).cong (fun y y1 y2 => w2_ne (by omega)))
        · rw [if_neg (fun z => q2 (by omega))] at hrs
          rw [if_neg q2]
          have g9 : u2 f1 241 19 (nI r.2) 241 19 = nI r.2 := w2_eq _ _ _ _
          refine ⟨fun e' he => ⟨u2 f1 241 19 (nI r.2), ?_, g9.trans (congrArg nI (err_inj he)), fun a y h1 h2 => (w2_ne (by omega)).trans (H1 a y h1 h2)⟩, fun r hr => by injection hr⟩
          rw [k1, bV_ok, e332_32]
          simp (disch := omega) only [S.f, k3, k2, t17, q1, hrs, g9, nI_ne_m1 (show r.2 < 2147483648 by omega), cond_true, cond_false, bI_ok, bI_er, bV_ok, bV_er, bR_ok, bR_er, bD_ok, bD_er, bF_ok, bF_er, thr_ap, cl_nI, lt_nI, le_nI, eq_nI, m1_lt, nI_m1, m1_nI, nI_lt_m1, add_nI, sub_nI, addm_nI, z_addm, z_subm, mul_nI, fit1_0, fit1_1, fit2_n, HI_wI, HK_wI, HL_wI, HR_wI, ckK_wI, chI_wI, sI_wI, wI_wI, lz0, lz1, lz2, lz3, lz4, lz5, lz6, lz7, lz8, lz9, lz10, lz12, lz13, lz16, lz17, lz20, lz21, lz23, lz26, lz30, lz32, lz35, lz40, lz45, lz48, lz57, lz58, lz59, lz60, lz61, lz63, lz64, lz97, lz99, lz100, lz110, lz111, lz126, lz129, lz132, lz133, lz166, lz169, lz255, lz999, lz1183, lz1800, Nat.reduceAdd, Nat.reduceLT, Nat.reduceEqDiff, Nat.not_lt_zero, Nat.lt_irrefl, ↓reduceIte, Nat.zero_add, Nat.add_zero, ne_eq, not_true_eq_false, not_false_eq_true, reduceCtorEq]
          rw [e332_32]
          simp (disch := omega) only [S.f, g9, nI_ne_m1 (show r.2 < 2147483648 by omega), cond_true, cond_false, bI_ok, bI_er, bV_ok, bV_er, bR_ok, bR_er, bD_ok, bD_er, bF_ok, bF_er, thr_ap, cl_nI, lt_nI, le_nI, eq_nI, m1_lt, nI_m1, m1_nI, nI_lt_m1, add_nI, sub_nI, addm_nI, z_addm, z_subm, mul_nI, fit1_0, fit1_1, fit2_n, HI_wI, HK_wI, HL_wI, HR_wI, ckK_wI, chI_wI, sI_wI, wI_wI, lz0, lz1, lz2, lz3, lz4, lz5, lz6, lz7, lz8, lz9, lz10, lz12, lz13, lz16, lz17, lz20, lz21, lz23, lz26, lz30, lz32, lz35, lz40, lz45, lz48, lz57, lz58, lz59, lz60, lz61, lz63, lz64, lz97, lz99, lz100, lz110, lz111, lz126, lz129, lz132, lz133, lz166, lz169, lz255, lz999, lz1183, lz1800, Nat.reduceAdd, Nat.reduceLT, Nat.reduceEqDiff, Nat.not_lt_zero, Nat.lt_irrefl, ↓reduceIte, Nat.zero_add, Nat.add_zero, ne_eq, not_true_eq_false, not_false_eq_true, reduceCtorEq]
      · rw [if_neg q1]
        refine ⟨fun e' he => by injection he, fun r' hr => ?_⟩
        rw [← ok_inj hr]
        refine ⟨f1, ?_, k3, k4, hC1, H1⟩
        rw [k1, bV_ok, e332_32]
        simp (disch := omega) only [S.f, k3, k2, t17, q1, cond_true, cond_false, bI_ok, bI_er, bV_ok, bV_er, bR_ok, bR_er, bD_ok, bD_er, bF_ok, bF_er, thr_ap, cl_nI, lt_nI, le_nI, eq_nI, m1_lt, nI_m1, m1_nI, nI_lt_m1, add_nI, sub_nI, addm_nI, z_addm, z_subm, mul_nI, fit1_0, fit1_1, fit2_n, HI_wI, HK_wI, HL_wI, HR_wI, ckK_wI, chI_wI, sI_wI, wI_wI, lz0, lz1, lz2, lz3, lz4, lz5, lz6, lz7, lz8, lz9, lz10, lz12, lz13, lz16, lz17, lz20, lz21, lz23, lz26, lz30, lz32, lz35, lz40, lz45, lz48, lz57, lz58, lz59, lz60, lz61, lz63, lz64, lz97, lz99, lz100, lz110, lz111, lz126, lz129, lz132, lz133, lz166, lz169, lz255, lz999, lz1183, lz1800, Nat.reduceAdd, Nat.reduceLT, Nat.reduceEqDiff, Nat.not_lt_zero, Nat.lt_irrefl, ↓reduceIte, Nat.zero_add, Nat.add_zero, ne_eq, not_true_eq_false, not_false_eq_true, reduceCtorEq]
def FRA (f f' : Nat → Nat → Int32) : Prop := ∀ a y, ¬(a = 241 ∧ (y = 13 ∨ (17 ≤ y ∧ y ≤ 20))) → a ≠ 252 → f' a y = f a y
theorem readsAll_ok (S : MdS h) (K : KoS h) {f : Nat → Nat → Int32} (F : Ko f) (T : TY f x n) (C0 : Nat → Cm) {N : Nat} (hN : N = 60) : (∀ e, prsA x n N 0 0 C0 = .error e → ∃ f', CL 332 [.ref 241] (wI h f) = some (.ok .null, wI h f') ∧ f' 241 19 = nI e ∧ f' 241 13 = nI 0 ∧ FRA f f') ∧ ∀ r, prsA x n N 0 0 C0 = .ok r → ∃ f', CL 332 [.ref 241] (wI h f) = some (.ok .null, wI h f') ∧ f' 241 19 = -nI 1 ∧ f' 241 20 = nI r.1 ∧ (∀ j, j < r.1 → CmM f' j (r.2 j)) ∧ f' 241 13 = nI 0 ∧ FRA f f' := by
  obtain ⟨t1, t2, t3⟩ := T
  have e : CL 332 [.ref 241] (wI h f) = bV (CL 331 [.ref 241] (wI h (u2 (u2 (u2 (u2 (u2 f 241 17 (nI n)) 241 13 (nI 0)) 241 18 (nI 0)) 241 19 (-nI 1)) 241 20 (nI 0)))) (fun h1 => RF 332 32 [.ref 241, .null] [] h1) thr := by
    rw [e332]
    simp (disch := omega) only [S.f, t1, cond_true, cond_false, bI_ok, bI_er, bV_ok, bV_er, bR_ok, bR_er, bD_ok, bD_er, bF_ok, bF_er, thr_ap, cl_nI, lt_nI, le_nI, eq_nI, m1_lt, nI_m1, m1_nI, nI_lt_m1, add_nI, sub_nI, addm_nI, z_addm, z_subm, mul_nI, fit1_0, fit1_1, fit2_n, HI_wI, HK_wI, HL_wI, HR_wI, ckK_wI, chI_wI, sI_wI, wI_wI, lz0, lz1, lz2, lz3, lz4, lz5, lz6, lz7, lz8, lz9, lz10, lz12, lz13, lz16, lz17, lz20, lz21, lz23, lz26, lz30, lz32, lz35, lz40, lz45, lz48, lz57, lz58, lz59, lz60, lz61, lz63, lz64, lz97, lz99, lz100, lz110, lz111, lz126, lz129, lz132, lz133, lz166, lz169, lz255, lz999, lz1183, lz1800, Nat.reduceAdd, Nat.reduceLT, Nat.reduceEqDiff, Nat.not_lt_zero, Nat.lt_irrefl, ↓reduceIte, Nat.zero_add, Nat.add_zero, ne_eq, not_true_eq_false, not_false_eq_true, reduceCtorEq]
  rw [e]
  have g13 : u2 (u2 (u2 (u2 (u2 f 241 17 (nI n)) 241 13 (nI 0)) 241 18 (nI 0)) 241 19 (-nI 1)) 241 20 (nI 0) 241 13 = nI 0 := by rw [w2_ne (by omega), w2_ne (by omega), w2_ne (by omega), w2_eq]
  have g17 : u2 (u2 (u2 (u2 (u2 f 241 17 (nI n)) 241 13 (nI 0)) 241 18 (nI 0)) 241 19 (-nI 1)) 241 20 (nI 0) 241 17 = nI n := by rw [w2_ne (by omega), w2_ne (by omega), w2_ne (by omega), w2_ne (by omega), w2_eq]
  have g18 : u2 (u2 (u2 (u2 (u2 f 241 17 (nI n)) 241 13 (nI 0)) 241 18 (nI 0)) 241 19 (-nI 1)) 241 20 (nI 0) 241 18 = nI 0 := by rw [w2_ne (by omega), w2_ne (by omega), w2_eq]
  have g19 : u2 (u2 (u2 (u2 (u2 f 241 17 (nI n)) 241 13 (nI 0)) 241 18 (nI 0)) 241 19 (-nI 1)) 241 20 (nI 0) 241 19 = -nI 1 := by rw [w2_ne (by omega), w2_eq]
  have g20 : u2 (u2 (u2 (u2 (u2 f 241 17 (nI n)) 241 13 (nI 0)) 241 18 (nI 0)) 241 19 (-nI 1)) 241 20 (nI 0) 241 20 = nI 0 := w2_eq _ _ _ _
  have H0 : FRA f (u2 (u2 (u2 (u2 (u2 f 241 17 (nI n)) 241 13 (nI 0)) 241 18 (nI 0)) 241 19 (-nI 1)) 241 20 (nI 0)) := fun a y h1 h2 => by rw [w2_ne (by omega), w2_ne (by omega), w2_ne (by omega), w2_ne (by omega), w2_ne (by omega)]
  generalize u2 (u2 (u2 (u2 (u2 f 241 17 (nI n)) 241 13 (nI 0)) 241 18 (nI 0)) 241 19 (-nI 1)) 241 20 (nI 0) = g at *
  have T0 : TM g x n := ⟨g17, t2, fun i hi => by rw [H0 250 i (by omega) (by omega)]; exact t3 i hi⟩
  have F0 := F.fr (f' := g) (fun a y ha => H0 a y (by omega) (by omega))
  obtain ⟨p1, p2⟩ := readsLoop_ok S K F0 T0 N 0 0 C0 g .null (by omega) (by omega) (by omega) (fun _ _ _ _ => rfl) g18 g19 g20 (fun j hj => absurd hj (Nat.not_lt_zero j))
  refine ⟨fun e he => ?_, fun r hr => ?_⟩
  · obtain ⟨f', k1, k2, k3⟩ := p1 e he
    exact ⟨f', k1, k2, (k3 241 13 (by omega) (by omega)).trans g13, fun a y h1 h2 => (k3 a y (by omega) h2).trans (H0 a y h1 h2)⟩
  · obtain ⟨f', k1, k2, k3, k4, k5⟩ := p2 r hr
    exact ⟨f', k1, k2, k3, k4, (k5 241 13 (by omega) (by omega)).trans g13, fun a y h1 h2 => (k5 a y (by omega) h2).trans (H0 a y h1 h2)⟩
theorem does_ok (S : MdS h) {f : Nat → Nat → Int32} {i : Nat} (hi : i < 30) {j s k a : Nat} (hc : CmM f i (j, s, k, a)) (hj : j < 7) {v : Int32} {h' : Hp} (hop : opM j (nI (97 + s)) (nI k) (nI a) (wI h f) = some (.ok (.int v), h')) : CL 333 [.ref 241, .int (nI (4 * i))] (wI h f) = some (.ok (.int v), h') := by
  obtain ⟨c1, c2, c3, c4⟩ := hc
  dsimp only at c1 c2 c3 c4
  rw [e333]
  simp (disch := omega) only [S.f, S.nc (show 4 * i < 120 by omega), S.nc (show 4 * i + 1 < 120 by omega), S.nc (show 4 * i + 2 < 120 by omega), c1, cond_true, cond_false, bI_ok, bI_er, bV_ok, bV_er, bR_ok, bR_er, bD_ok, bD_er, bF_ok, bF_er, thr_ap, cl_nI, lt_nI, le_nI, eq_nI, m1_lt, nI_m1, m1_nI, nI_lt_m1, add_nI, sub_nI, addm_nI, z_addm, z_subm, mul_nI, fit1_0, fit1_1, fit2_n, HI_wI, HK_wI, HL_wI, HR_wI, ckK_wI, chI_wI, sI_wI, wI_wI, lz0, lz1, lz2, lz3, lz4, lz5, lz6, lz7, lz8, lz9, lz10, lz12, lz13, lz16, lz17, lz20, lz21, lz23, lz26, lz30, lz32, lz35, lz40, lz45, lz48, lz57, lz58, lz59, lz60, lz61, lz63, lz64, lz97, lz99, lz100, lz110, lz111, lz126, lz129, lz132, lz133, lz166, lz169, lz255, lz999, lz1183, lz1800, Nat.reduceAdd, Nat.reduceLT, Nat.reduceEqDiff, Nat.not_lt_zero, Nat.lt_irrefl, ↓reduceIte, Nat.zero_add, Nat.add_zero, ne_eq, not_true_eq_false, not_false_eq_true, reduceCtorEq]
  have hj' : j = 0 ∨ j = 1 ∨ j = 2 ∨ j = 3 ∨ j = 4 ∨ j = 5 ∨ j = 6 := by omega
  rcases hj' with rfl | rfl | rfl | rfl | rfl | rfl | rfl
  · obtain ⟨d1, d2⟩ := c2 (by omega)
    have d3 := c3 (by omega)
    have hop : CL 211 [.ref 241, .int (nI (97 + s)), .int (nI k), .int (nI a)] (wI h f) = some (.ok (.int v), h') := hop
    rw [d1, d2]
    refine ((e333_24 ..).trans rfl : _ = RF 333 64 [.ref 241, .int (nI (4 * i)), .int (nI (97 + s)), .int (nI k)] [] (wI h f)).trans ?_
    rw [e333_64]
    simp (disch := omega) only [S.f, S.nc (show 4 * i + 3 < 120 by omega), d3, hop, cond_true, cond_false, bI_ok, bI_er, bV_ok, bV_er, bR_ok, bR_er, bD_ok, bD_er, bF_ok, bF_er, thr_ap, cl_nI, lt_nI, le_nI, eq_nI, m1_lt, nI_m1, m1_nI, nI_lt_m1, add_nI, sub_nI, addm_nI, z_addm, z_subm, mul_nI, fit1_0, fit1_1, fit2_n, HI_wI, HK_wI, HL_wI, HR_wI, ckK_wI, chI_wI, sI_wI, wI_wI, lz0, lz1, lz2, lz3, lz4, lz5, lz6, lz7, lz8, lz9, lz10, lz12, lz13, lz16, lz17, lz20, lz21, lz23, lz26, lz30, lz32, lz35, lz40, lz45, lz48, lz57, lz58, lz59, lz60, lz61, lz63, lz64, lz97, lz99, lz100, lz110, lz111, lz126, lz129, lz132, lz133, lz166, lz169, lz255, lz999, lz1183, lz1800, Nat.reduceAdd, Nat.reduceLT, Nat.reduceEqDiff, Nat.not_lt_zero, Nat.lt_irrefl, ↓reduceIte, Nat.zero_add, Nat.add_zero, ne_eq, not_true_eq_false, not_false_eq_true, reduceCtorEq]
  · obtain ⟨d1, d2⟩ := c2 (by omega)
    have d3 := c3 (by omega)
    have hop : CL 218 [.ref 241, .int (nI (97 + s)), .int (nI k), .int (nI a)] (wI h f) = some (.ok (.int v), h') := hop
    rw [d1, d2]
    refine ((e333_24 ..).trans rfl : _ = RF 333 79 [.ref 241, .int (nI (4 * i)), .int (nI (97 + s)), .int (nI k)] [] (wI h f)).trans ?_
    rw [e333_79]
    simp (disch := omega) only [S.f, S.nc (show 4 * i + 3 < 120 by omega), d3, hop, cond_true, cond_false, bI_ok, bI_er, bV_ok, bV_er, bR_ok, bR_er, bD_ok, bD_er, bF_ok, bF_er, thr_ap, cl_nI, lt_nI, le_nI, eq_nI, m1_lt, nI_m1, m1_nI, nI_lt_m1, add_nI, sub_nI, addm_nI, z_addm, z_subm, mul_nI, fit1_0, fit1_1, fit2_n, HI_wI, HK_wI, HL_wI, HR_wI, ckK_wI, chI_wI, sI_wI, wI_wI, lz0, lz1, lz2, lz3, lz4, lz5, lz6, lz7, lz8, lz9, lz10, lz12, lz13, lz16, lz17, lz20, lz21, lz23, lz26, lz30, lz32, lz35, lz40, lz45, lz48, lz57, lz58, lz59, lz60, lz61, lz63, lz64, lz97, lz99, lz100, lz110, lz111, lz126, lz129, lz132, lz133, lz166, lz169, lz255, lz999, lz1183, lz1800, Nat.reduceAdd, Nat.reduceLT, Nat.reduceEqDiff, Nat.not_lt_zero, Nat.lt_irrefl, ↓reduceIte, Nat.zero_add, Nat.add_zero, ne_eq, not_true_eq_false, not_false_eq_true, reduceCtorEq]
  · have hop : CL 228 [.ref 241] (wI h f) = some (.ok (.int v), h') := hop
    refine ((e333_24 ..).trans rfl : _ = RF 333 94 [.ref 241, .int (nI (4 * i)), .int (f 252 (4 * i + 1)), .int (f 252 (4 * i + 2))] [] (wI h f)).trans ?_
    rw [e333_94]
    simp (disch := omega) only [S.f, hop, cond_true, cond_false, bI_ok, bI_er, bV_ok, bV_er, bR_ok, bR_er, bD_ok, bD_er, bF_ok, bF_er, thr_ap, cl_nI, lt_nI, le_nI, eq_nI, m1_lt, nI_m1, m1_nI, nI_lt_m1, add_nI, sub_nI, addm_nI, z_addm, z_subm, mul_nI, fit1_0, fit1_1, fit2_n, HI_wI, HK_wI, HL_wI, HR_wI, ckK_wI, chI_wI, sI_wI, wI_wI, lz0, lz1, lz2, lz3, lz4, lz5, lz6, lz7, lz8, lz9, lz10, lz12, lz13, lz16, lz17, lz20, lz21, lz23, lz26, lz30, lz32, lz35, lz40, lz45, lz48, lz57, lz58, lz59, lz60, lz61, lz63, lz64, lz97, lz99, lz100, lz110, lz111, lz126, lz129, lz132, lz133, lz166, lz169, lz255, lz999, lz1183, lz1800, Nat.reduceAdd, Nat.reduceLT, Nat.reduceEqDiff, Nat.not_lt_zero, Nat.lt_irrefl, ↓reduceIte, Nat.zero_add, Nat.add_zero, ne_eq, not_true_eq_false, not_false_eq_true, reduceCtorEq]
  · have hop : CL 230 [.ref 241] (wI h f) = some (.ok (.int v), h') := hop
    refine ((e333_24 ..).trans rfl : _ = RF 333 99 [.ref 241, .int (nI (4 * i)), .int (f 252 (4 * i + 1)), .int (f 252 (4 * i + 2))] [] (wI h f)).trans ?_
    rw [e333_99]
    simp (disch := omega) only [S.f, hop, cond_true, cond_false, bI_ok, bI_er, bV_ok, bV_er, bR_ok, bR_er, bD_ok, bD_er, bF_ok, bF_er, thr_ap, cl_nI, lt_nI, le_nI, eq_nI, m1_lt, nI_m1, m1_nI, nI_lt_m1, add_nI, sub_nI, addm_nI, z_addm, z_subm, mul_nI, fit1_0, fit1_1, fit2_n, HI_wI, HK_wI, HL_wI, HR_wI, ckK_wI, chI_wI, sI_wI, wI_wI, lz0, lz1, lz2, lz3, lz4, lz5, lz6, lz7, lz8, lz9, lz10, lz12, lz13, lz16, lz17, lz20, lz21, lz23, lz26, lz30, lz32, lz35, lz40, lz45, lz48, lz57, lz58, lz59, lz60, lz61, lz63, lz64, lz97, lz99, lz100, lz110, lz111, lz126, lz129, lz132, lz133, lz166, lz169, lz255, lz999, lz1183, lz1800, Nat.reduceAdd, Nat.reduceLT, Nat.reduceEqDiff, Nat.not_lt_zero, Nat.lt_irrefl, ↓reduceIte, Nat.zero_add, Nat.add_zero, ne_eq, not_true_eq_false, not_false_eq_true, reduceCtorEq]
  · obtain ⟨d1, d2⟩ := c2 (by omega)
    have hop : CL 237 [.ref 241, .int (nI (97 + s)), .int (nI k)] (wI h f) = some (.ok (.int v), h') := hop
    rw [d1, d2]
    refine ((e333_24 ..).trans rfl : _ = RF 333 104 [.ref 241, .int (nI (4 * i)), .int (nI (97 + s)), .int (nI k)] [] (wI h f)).trans ?_
    rw [e333_104]
    simp (disch := omega) only [S.f, hop, cond_true, cond_false, bI_ok, bI_er, bV_ok, bV_er, bR_ok, bR_er, bD_ok, bD_er, bF_ok, bF_er, thr_ap, cl_nI, lt_nI, le_nI, eq_nI, m1_lt, nI_m1, m1_nI, nI_lt_m1, add_nI, sub_nI, addm_nI, z_addm, z_subm, mul_nI, fit1_0, fit1_1, fit2_n, HI_wI, HK_wI, HL_wI, HR_wI, ckK_wI, chI_wI, sI_wI, wI_wI, lz0, lz1, lz2, lz3, lz4, lz5, lz6, lz7, lz8, lz9, lz10, lz12, lz13, lz16, lz17, lz20, lz21, lz23, lz26, lz30, lz32, lz35, lz40, lz45, lz48, lz57, lz58, lz59, lz60, lz61, lz63, lz64, lz97, lz99, lz100, lz110, lz111, lz126, lz129, lz132, lz133, lz166, lz169, lz255, lz999, lz1183, lz1800, Nat.reduceAdd, Nat.reduceLT, Nat.reduceEqDiff, Nat.not_lt_zero, Nat.lt_irrefl, ↓reduceIte, Nat.zero_add, Nat.add_zero, ne_eq, not_true_eq_false, not_false_eq_true, reduceCtorEq]
  · obtain ⟨d1, d2⟩ := c2 (by omega)
    have hop : CL 239 [.ref 241, .int (nI (97 + s)), .int (nI k)] (wI h f) = some (.ok (.int v), h') := hop
    rw [d1, d2]
    refine ((e333_24 ..).trans rfl : _ = RF 333 111 [.ref 241, .int (nI (4 * i)), .int (nI (97 + s)), .int (nI k)] [] (wI h f)).trans ?_
    rw [e333_111]
    simp (disch := omega) only [S.f, hop, cond_true, cond_false, bI_ok, bI_er, bV_ok, bV_er, bR_ok, bR_er, bD_ok, bD_er, bF_ok, bF_er, thr_ap, cl_nI, lt_nI, le_nI, eq_nI, m1_lt, nI_m1, m1_nI, nI_lt_m1, add_nI, sub_nI, addm_nI, z_addm, z_subm, mul_nI, fit1_0, fit1_1, fit2_n, HI_wI, HK_wI, HL_wI, HR_wI, ckK_wI, chI_wI, sI_wI, wI_wI, lz0, lz1, lz2, lz3, lz4, lz5, lz6, lz7, lz8, lz9, lz10, lz12, lz13, lz16, lz17, lz20, lz21, lz23, lz26, lz30, lz32, lz35, lz40, lz45, lz48, lz57, lz58, lz59, lz60, lz61, lz63, lz64, lz97, lz99, lz100, lz110, lz111, lz126, lz129, lz132, lz133, lz166, lz169, lz255, lz999, lz1183, lz1800, Nat.reduceAdd, Nat.reduceLT, Nat.reduceEqDiff, Nat.not_lt_zero, Nat.lt_irrefl, ↓reduceIte, Nat.zero_add, Nat.add_zero, ne_eq, not_true_eq_false, not_false_eq_true, reduceCtorEq]
  · have d2 := c4 rfl
    have hop : CL 242 [.ref 241, .int (nI a)] (wI h f) = some (.ok (.int v), h') := hop
    rw [d2]
    refine ((e333_24 ..).trans rfl : _ = RF 333 118 [.ref 241, .int (nI (4 * i)), .int (f 252 (4 * i + 1)), .int (nI a)] [] (wI h f)).trans ?_
    rw [e333_118]
    simp (disch := omega) only [S.f, hop, cond_true, cond_false, bI_ok, bI_er, bV_ok, bV_er, bR_ok, bR_er, bD_ok, bD_er, bF_ok, bF_er, thr_ap, cl_nI, lt_nI, le_nI, eq_nI, m1_lt, nI_m1, m1_nI, nI_lt_m1, add_nI, sub_nI, addm_nI, z_addm, z_subm, mul_nI, fit1_0, fit1_1, fit2_n, HI_wI, HK_wI, HL_wI, HR_wI, ckK_wI, chI_wI, sI_wI, wI_wI, lz0, lz1, lz2, lz3, lz4, lz5, lz6, lz7, lz8, lz9, lz10, lz12, lz13, lz16, lz17, lz20, lz21, lz23, lz26, lz30, lz32, lz35, lz40, lz45, lz48, lz57, lz58, lz59, lz60, lz61, lz63, lz64, lz97, lz99, lz100, lz110, lz111, lz126, lz129, lz132, lz133, lz166, lz169, lz255, lz999, lz1183, lz1800, Nat.reduceAdd, Nat.reduceLT, Nat.reduceEqDiff, Nat.not_lt_zero, Nat.lt_irrefl, ↓reduceIte, Nat.zero_add, Nat.add_zero, ne_eq, not_true_eq_false, not_false_eq_true, reduceCtorEq]
end RM4
