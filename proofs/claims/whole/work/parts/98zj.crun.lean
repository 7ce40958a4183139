/-! THE CLASS: a program run -/
theorem lln5 : ∀ w, w < 7 → 5 ≤ lln (12 + 2 * w) := by decide +kernel
theorem cmdA_b {x : Nat → Nat} {n p : Nat} (hp : p ≤ n) : match cmdA x n p with
    | .error e => e ≤ n
    | .ok r => r.2 ≤ n ∧ p + 5 ≤ r.2 ∧ r.1.1 < 7 ∧ r.1.2.1 < 3 ∧ r.1.2.2.1 < 1000 ∧ r.1.2.2.2 < 100 := by
  unfold cmdA
  cases hq : kwA x n p with
  | none => exact (lgA_n hp 7).1
  | some w =>
    have hw := (fst_some.mp hq).1
    have hpw : p + lln (12 + 2 * w) ≤ n := by
      have h1 := of_decide_eq_true (fst_some.mp hq).2.1
      have h2 := cmm_n (x := x) (a := 12 + 2 * w) hp
      omega
    have h5 := lln5 w hw
    dsimp only
    by_cases q1 : w = 2 ∨ w = 3
    · rw [if_pos q1]
      exact ⟨hpw, by dsimp only; omega, hw, by show 0 < 3; decide, by show 0 < 1000; decide, by show 0 < 100; decide⟩
    · rw [if_neg q1]
      by_cases q2 : w = 6
      · rw [if_pos q2]
        cases hn : numA' x n 2 (p + lln (12 + 2 * w)) with
        | none => exact hpw
        | some r =>
          have hb := numA_b (by decide) hn
          exact ⟨hb.2.2, by dsimp only; omega, by show 6 < 7; decide, by show 0 < 3; decide, by show 0 < 1000; decide, hb.1⟩
      · rw [if_neg q2]
        by_cases q3 : p + lln (12 + 2 * w) < n ∧ 97 ≤ x (p + lln (12 + 2 * w)) ∧ x (p + lln (12 + 2 * w)) ≤ 99
        · rw [if_pos q3]
          cases hn : numA' x n 3 (p + lln (12 + 2 * w) + 1) with
          | none => show p + lln (12 + 2 * w) + 1 ≤ n; omega
          | some r =>
            have hb := numA_b (by decide) hn
            dsimp only
            by_cases q4 : 2 ≤ w
            · rw [if_pos q4]
              exact ⟨hb.2.2, by dsimp only; omega, hw, by dsimp only; omega, hb.1, by show 0 < 100; decide⟩
            · rw [if_neg q4]
              by_cases q5 : r.2 < n ∧ x r.2 = 61
              · rw [if_pos q5]
                cases hn2 : numA' x n 2 (r.2 + 1) with
                | none => show r.2 + 1 ≤ n; omega
                | some r' =>
                  have hb' := numA_b (by decide) hn2
                  exact ⟨hb'.2.2, by dsimp only; omega, hw, by dsimp only; omega, hb.1, hb'.1⟩
              · rw [if_neg q5]
                exact hb.2.2
        · rw [if_neg q3]
          exact hpw
def okC (c : Cm) : Prop := c.1 < 7 ∧ c.2.1 < 3 ∧ c.2.2.1 < 1000 ∧ c.2.2.2 < 100
theorem prsA_0 (x : Nat → Nat) (n p i : Nat) (C : Nat → Cm) : prsA x n 0 p i C = .error p := rfl
theorem prsA_e {x : Nat → Nat} {n k p i e : Nat} {C : Nat → Cm} (h : cmdA x n p = .error e) : prsA x n (k + 1) p i C = .error e := prsG_e (cm := cmdA x n) h
theorem prsA_o {x : Nat → Nat} {n k p i : Nat} {C : Nat → Cm} {r : Cm × Nat} (h : cmdA x n p = .ok r) : prsA x n (k + 1) p i C = if r.2 < n then (if x r.2 = 59 then prsA x n k (r.2 + 1) (i + 1) (ud C i r.1) else .error r.2) else .ok (i + 1, ud C i r.1) := prsG_o (cm := cmdA x n) h
theorem cmdA_e {x : Nat → Nat} {n p e : Nat} (hp : p ≤ n) (h : cmdA x n p = .error e) : e ≤ n := by
  have hb := cmdA_b (x := x) hp
  rw [h] at hb
  exact hb
theorem cmdA_o {x : Nat → Nat} {n p : Nat} {r : Cm × Nat} (hp : p ≤ n) (h : cmdA x n p = .ok r) : r.2 ≤ n ∧ p + 5 ≤ r.2 ∧ okC r.1 := by
  have hb := cmdA_b (x := x) hp
  rw [h] at hb
  exact hb
theorem err_inj {α : Type} {a b : Nat} (h : (Except.error a : Except Nat α) = .error b) : a = b := by
  injection h
theorem ok_inj {α : Type} {a b : α} (h : (Except.ok a : Except Nat α) = .ok b) : a = b := by
  injection h
theorem prsA_b {x : Nat → Nat} {n : Nat} : ∀ (k p i : Nat) (C : Nat → Cm), p ≤ n → (∀ j, j < i → okC (C j)) → (∀ e, prsA x n k p i C = .error e → e ≤ n) ∧ ∀ r, prsA x n k p i C = .ok r → i < r.1 ∧ r.1 ≤ i + k ∧ (∀ j, j < r.1 → okC (r.2 j)) ∧ 5 * (r.1 - i) ≤ n - p := by
  intro k
  induction k with
  | zero =>
    intro p i C hp _
    refine ⟨fun e he => ?_, fun r hr => ?_⟩
    · rw [prsA_0] at he
      rw [← err_inj he]
      exact hp
    · rw [prsA_0] at hr
      injection hr
  | succ k ih =>
    intro p i C hp hC
    cases hq : cmdA x n p with
    | error e =>
      rw [prsA_e hq]
      refine ⟨fun e' he => ?_, fun r hr => ?_⟩
      · rw [← err_inj he]
        exact cmdA_e hp hq
      · injection hr
    | ok r =>
      obtain ⟨b1, b2, b3⟩ := cmdA_o hp hq
      have hC' : ∀ j, j < i + 1 → okC (ud C i r.1 j) := fun j hj => by
        by_cases z : j = i
        · rw [z, ud_e]
          exact b3
        · rw [ud_n z]
          exact hC j (by omega)
      rw [prsA_o hq]
      by_cases q1 : r.2 < n
      · rw [if_pos q1]
        by_cases q2 : x r.2 = 59
        · rw [if_pos q2]
          obtain ⟨h1, h2⟩ := ih (r.2 + 1) (i + 1) (ud C i r.1) (by omega) hC'
          refine ⟨h1, fun r' hr' => ?_⟩
          obtain ⟨y1, y2, y3, y4⟩ := h2 r' hr'
          exact ⟨by omega, by omega, y3, by omega⟩
        · rw [if_neg q2]
          refine ⟨fun e he => ?_, fun r' hr' => ?_⟩
          · rw [← err_inj he]
            exact b1
          · injection hr'
      · rw [if_neg q1]
        refine ⟨fun e he => ?_, fun r' hr' => ?_⟩
        · injection he
        · rw [← ok_inj hr']
          exact ⟨by dsimp only; omega, by dsimp only; omega, hC', by dsimp only; omega⟩
def FPa (f f' : Nat → Nat → Int32) : Prop := ∀ a y, ¬(a = 221 ∧ (y = 6 ∨ y = 7)) → ¬(223 ≤ a ∧ a ≤ 226) → f' a y = f a y
section PG
variable {h : Hp} {x : Nat → Nat} {n : Nat}
theorem TX.fa {f f' : Nat → Nat → Int32} (T : TX f x n) (H : FPa f f') : TX f' x n := ⟨(H 221 1 (by omega) (by omega)).trans T.1, T.2.1, fun i hi => by rw [H 222 i (by omega) (by omega)]; exact T.2.2 i hi⟩
theorem Ko.fr {f f' : Nat → Nat → Int32} (F : Ko f) (H : ∀ a y, a < 31 → f' a y = f a y) : Ko f' := fun a h1 h2 k => (H a k (by omega)).trans (F a h1 h2 k)
theorem parse_ok (S : PgS h) (K : KoS h) {f : Nat → Nat → Int32} (F : Ko f) (T : TX f x n) (C0 : Nat → Cm) {N : Nat} (hN : N = 60) : (∀ e, prsA x n N 0 0 C0 = .error e → ∃ f', CL 173 [.ref 221] (wI h f) = some (.ok (.int (nI e)), wI h f') ∧ FPa f f') ∧ ∀ r, prsA x n N 0 0 C0 = .ok r → ∃ f', CL 173 [.ref 221] (wI h f) = some (.ok (.int (-nI 1)), wI h f') ∧ f' 221 6 = nI r.1 ∧ (∀ j, j < r.1 → CmC f' j (r.2 j)) ∧ FPa f f' := by
  have n60 := T.2.1
  have key : ∀ (k p i : Nat) (C : Nat → Cm) (g : Nat → Nat → Int32), i + k = 60 → p ≤ n → FPa f g → g 221 7 = nI p → (∀ j, j < i → CmC g j (C j)) → (∀ e, prsA x n k p i C = .error e → ∃ f', RF 173 12 [.ref 221, .int (nI i)] [] (wI h g) = some (.ok (.int (nI e)), wI h f') ∧ FPa f f') ∧ ∀ r, prsA x n k p i C = .ok r → ∃ f', RF 173 12 [.ref 221, .int (nI i)] [] (wI h g) = some (.ok (.int (-nI 1)), wI h f') ∧ f' 221 6 = nI r.1 ∧ (∀ j, j < r.1 → CmC f' j (r.2 j)) ∧ FPa f f' := by
    intro k
    induction k with
    | zero =>
      intro p i C g hk hp H hg hC
      rw [prsA_0]
      refine ⟨fun e he => ⟨g, ?_, H⟩, fun r hr => ?_⟩
      · rw [← err_inj he, e173_12]
        simp (disch := omega) only [S.f, hg, show ¬(i < 60) by omega, cond_true, cond_false, bI_ok, bI_er, bV_ok, bV_er, bR_ok, bR_er, bD_ok, bD_er, bF_ok, bF_er, thr_ap, cl_nI, lt_nI, le_nI, eq_nI, m1_lt, nI_m1, m1_nI, nI_lt_m1, add_nI, sub_nI, addm_nI, z_addm, z_subm, mul_nI, fit1_0, fit1_1, fit2_n, HI_wI, HK_wI, HL_wI, HR_wI, ckK_wI, chI_wI, sI_wI, wI_wI, lz0, lz1, lz2, lz3, lz4, lz5, lz6, lz7, lz8, lz9, lz10, lz12, lz13, lz16, lz17, lz20, lz21, lz23, lz26, lz30, lz32, lz35, lz40, lz45, lz48, lz57, lz58, lz59, lz60, lz61, lz63, lz64, lz97, lz99, lz100, lz110, lz111, lz126, lz129, lz132, lz133, lz166, lz169, lz255, lz999, lz1183, lz1800, Nat.reduceAdd, Nat.reduceLT, Nat.reduceEqDiff, Nat.not_lt_zero, Nat.lt_irrefl, ↓reduceIte, Nat.zero_add, Nat.add_zero, ne_eq, not_true_eq_false, not_false_eq_true, reduceCtorEq]
      · injection hr
    | succ k ih =>
      intro p i C g hk hp H hg hC
      have Tg := T.fa H
      have Fg := F.fr (f' := g) (fun a y ha => H a y (by omega) (by omega))
      have hrc := readCommand_ok S K Fg Tg (i := i) (by omega) hg hp
      unfold RcQ at hrc
      cases hq : cmdA x n p with
      | error e =>
        rw [hq] at hrc
        dsimp only at hrc
        obtain ⟨f1, k1, k2, k3⟩ := hrc
        rw [prsA_e hq]
        refine ⟨fun e' he => ⟨f1, ?_, fun a y h1 h2 => (k3 a y (by omega) (by omega)).trans (H a y h1 h2)⟩, fun r hr => by injection hr⟩
        rw [← err_inj he, e173_12]
        simp (disch := omega) only [S.f, show i < 60 by omega, k1, k2, cond_true, cond_false, bI_ok, bI_er, bV_ok, bV_er, bR_ok, bR_er, bD_ok, bD_er, bF_ok, bF_er, thr_ap, cl_nI, lt_nI, le_nI, eq_nI, m1_lt, nI_m1, m1_nI, nI_lt_m1, add_nI, sub_nI, addm_nI, z_addm, z_subm, mul_nI, fit1_0, fit1_1, fit2_n, HI_wI, HK_wI, HL_wI, HR_wI, ckK_wI, chI_wI, sI_wI, wI_wI, lz0, lz1, lz2, lz3, lz4, lz5, lz6, lz7, lz8, lz9, lz10, lz12, lz13, lz16, lz17, lz20, lz21, lz23, lz26, lz30, lz32, lz35, lz40, lz45, lz48, lz57, lz58, lz59, lz60, lz61, lz63, lz64, lz97, lz99, lz100, lz110, lz111, lz126, lz129, lz132, lz133, lz166, lz169, lz255, lz999, lz1183, lz1800, Nat.reduceAdd, Nat.reduceLT, Nat.reduceEqDiff, Nat.not_lt_zero, Nat.lt_irrefl, ↓reduceIte, Nat.zero_add, Nat.add_zero, ne_eq, not_true_eq_false, not_false_eq_true, reduceCtorEq]
      | ok r =>
        rw [hq] at hrc
        dsimp only at hrc
        obtain ⟨f1, k1, k2, k3, k4⟩ := hrc
        obtain ⟨b1, b2, b3⟩ := cmdA_o hp hq
        have H1 : FPa f (u2 f1 221 6 (nI (i + 1))) := fun a y h1 h2 => by
          rw [w2_ne (by omega), k4 a y (by omega) (by omega)]
          exact H a y h1 h2
        have g7 : u2 f1 221 6 (nI (i + 1)) 221 7 = nI r.2 := (w2_ne (by omega)).trans k2
        have g1 : u2 f1 221 6 (nI (i + 1)) 221 1 = nI n := (H1 221 1 (by omega) (by omega)).trans T.1
        have hC1 : ∀ j, j < i + 1 → CmC (u2 f1 221 6 (nI (i + 1))) j (ud C i r.1 j) := fun j hj => by
          unfold CmC
          rw [w2_ne (by omega), w2_ne (by omega), w2_ne (by omega), w2_ne (by omega)]
          by_cases z : j = i
          · rw [z, ud_e]
            exact k3
          · rw [ud_n z, k4 223 j (by omega) (by omega), k4 224 j (by omega) (by omega), k4 225 j (by omega) (by omega), k4 226 j (by omega) (by omega)]
            exact hC j (by omega)
        rw [prsA_o hq]
        by_cases q1 : r.2 < n
        · rw [if_pos q1]
          have hsk := skip_ok S (T.fa H1) (c := 59) g7 b1 (by decide)
          by_cases q2 : x r.2 = 59
          · rw [if_pos ⟨q1, q2⟩] at hsk
            rw [if_pos q2]
            have H2 : FPa f (u2 (u2 f1 221 6 (nI (i + 1))) 221 7 (nI (r.2 + 1))) := fun a y h1 h2 => by
              rw [w2_ne (by omega)]
              exact H1 a y h1 h2
            have e : RF 173 12 [.ref 221, .int (nI i)] [] (wI h g) = RF 173 12 [.ref 221, .int (nI (i + 1))] [] (wI h (u2 (u2 f1 221 6 (nI (i + 1))) 221 7 (nI (r.2 + 1)))) := by
              rw [e173_12]
              simp (disch := omega) only [S.f, show i < 60 by omega, k1, g7, g1, q1, hsk, Nat.succ_ne_self, cond_true, cond_false, bI_ok, bI_er, bV_ok, bV_er, bR_ok, bR_er, bD_ok, bD_er, bF_ok, bF_er, thr_ap, cl_nI, lt_nI, le_nI, eq_nI, m1_lt, nI_m1, m1_nI, nI_lt_m1, add_nI, sub_nI, addm_nI, z_addm, z_subm, mul_nI, fit1_0, fit1_1, fit2_n, HI_wI, HK_wI, HL_wI, HR_wI, ckK_wI, chI_wI, sI_wI, wI_wI, lz0, lz1, lz2, lz3, lz4, lz5, lz6, lz7, lz8, lz9, lz10, lz12, lz13, lz16, lz17, lz20, lz21, lz23, lz26, lz30, lz32, lz35, lz40, lz45, lz48, lz57, lz58, lz59, lz60, lz61, lz63, lz64, lz97, lz99, lz100, lz110, lz111, lz126, lz129, lz132, lz133, lz166, lz169, lz255, lz999, lz1183, lz1800, Nat.reduceAdd, Nat.reduceLT, Nat.reduceEqDiff, Nat.not_lt_zero, Nat.lt_irrefl, ↓reduceIte, Nat.zero_add, Nat.add_zero, ne_eq, not_true_eq_false, not_false_eq_true, reduceCtorEq]
            rw [e]
            exact ih (r.2 + 1) (i + 1) (ud C i r.1) _ (by omega) (by omega) H2 (w2_eq _ _ _ _) (fun j hj => by
              have := hC1 j hj
              unfold CmC at this ⊢
              rw [w2_ne (by omega), w2_ne (by omega), w2_ne (by omega), w2_ne (by omega)]
              exact this)
          · rw [if_neg (fun z => q2 z.2)] at hsk
            rw [if_neg q2]
            refine ⟨fun e' he => ⟨_, ?_, H1⟩, fun r hr => by injection hr⟩
            rw [← err_inj he, e173_12]
            simp (disch := omega) only [S.f, show i < 60 by omega, k1, g7, g1, q1, hsk, Nat.succ_ne_self, cond_true, cond_false, bI_ok, bI_er, bV_ok, bV_er, bR_ok, bR_er, bD_ok, bD_er, bF_ok, bF_er, thr_ap, cl_nI, lt_nI, le_nI, eq_nI, m1_lt, nI_m1, m1_nI, nI_lt_m1, add_nI, sub_nI, addm_nI, z_addm, z_subm, mul_nI, fit1_0, fit1_1, fit2_n, HI_wI, HK_wI, HL_wI, HR_wI, ckK_wI, chI_wI, sI_wI, wI_wI, lz0, lz1, lz2, lz3, lz4, lz5, lz6, lz7, lz8, lz9, lz10, lz12, lz13, lz16, lz17, lz20, lz21, lz23, lz26, lz30, lz32, lz35, lz40, lz45, lz48, lz57, lz58, lz59, lz60, lz61, lz63, lz64, lz97, lz99, lz100, lz110, lz111, lz126, lz129, lz132, lz133, lz166, lz169, lz255, lz999, lz1183, lz1800, Nat.reduceAdd, Nat.reduceLT, Nat.reduceEqDiff, Nat.not_lt_zero, Nat.lt_irrefl, ↓reduceIte, Nat.zero_add, Nat.add_zero, ne_eq, not_true_eq_false, not_false_eq_true, reduceCtorEq]
        · rw [if_neg q1]
          refine ⟨fun e' he => by injection he, fun r' hr => ?_⟩
          rw [← ok_inj hr]
          refine ⟨_, ?_, w2_eq _ _ _ _, hC1, H1⟩
          rw [e173_12]
          simp (disch := omega) only [S.f, show i < 60 by omega, k1, g7, g1, q1, Nat.succ_ne_self, cond_true, cond_false, bI_ok, bI_er, bV_ok, bV_er, bR_ok, bR_er, bD_ok, bD_er, bF_ok, bF_er, thr_ap, cl_nI, lt_nI, le_nI, eq_nI, m1_lt, nI_m1, m1_nI, nI_lt_m1, add_nI, sub_nI, addm_nI, z_addm, z_subm, mul_nI, fit1_0, fit1_1, fit2_n, HI_wI, HK_wI, HL_wI, HR_wI, ckK_wI, chI_wI, sI_wI, wI_wI, lz0, lz1, lz2, lz3, lz4, lz5, lz6, lz7, lz8, lz9, lz10, lz12, lz13, lz16, lz17, lz20, lz21, lz23, lz26, lz30, lz32, lz35, lz40, lz45, lz48, lz57, lz58, lz59, lz60, lz61, lz63, lz64, lz97, lz99, lz100, lz110, lz111, lz126, lz129, lz132, lz133, lz166, lz169, lz255, lz999, lz1183, lz1800, Nat.reduceAdd, Nat.reduceLT, Nat.reduceEqDiff, Nat.not_lt_zero, Nat.lt_irrefl, ↓reduceIte, Nat.zero_add, Nat.add_zero, ne_eq, not_true_eq_false, not_false_eq_true, reduceCtorEq]
  have e : CL 173 [.ref 221] (wI h f) = RF 173 12 [.ref 221, .int (nI 0)] [] (wI h (u2 (u2 f 221 7 (nI 0)) 221 6 (nI 0))) := by
    rw [e173]
    simp (disch := omega) only [S.f, cond_true, cond_false, bI_ok, bI_er, bV_ok, bV_er, bR_ok, bR_er, bD_ok, bD_er, bF_ok, bF_er, thr_ap, cl_nI, lt_nI, le_nI, eq_nI, m1_lt, nI_m1, m1_nI, nI_lt_m1, add_nI, sub_nI, addm_nI, z_addm, z_subm, mul_nI, fit1_0, fit1_1, fit2_n, HI_wI, HK_wI, HL_wI, HR_wI, ckK_wI, chI_wI, sI_wI, wI_wI, lz0, lz1, lz2, lz3, lz4, lz5, lz6, lz7, lz8, lz9, lz10, lz12, lz13, lz16, lz17, lz20, lz21, lz23, lz26, lz30, lz32, lz35, lz40, lz45, lz48, lz57, lz58, lz59, lz60, lz61, lz63, lz64, lz97, lz99, lz100, lz110, lz111, lz126, lz129, lz132, lz133, lz166, lz169, lz255, lz999, lz1183, lz1800, Nat.reduceAdd, Nat.reduceLT, Nat.reduceEqDiff, Nat.not_lt_zero, Nat.lt_irrefl, ↓reduceIte, Nat.zero_add, Nat.add_zero, ne_eq, not_true_eq_false, not_false_eq_true, reduceCtorEq]
  rw [e]
  exact key N 0 0 C0 _ (by omega) (Nat.zero_le n) (fun a y h1 h2 => by rw [w2_ne (by omega), w2_ne (by omega)]) (by rw [w2_ne (by omega), w2_eq]) (fun j hj => absurd hj (Nat.not_lt_zero j))
end PG
/-- the book behind i commands -/
def bsq (b : Bk) (C : Nat → Cm) : Nat → Bk
  | 0 => b
  | i + 1 => effB (bsq b C i) (C i).1 (C i).2.1 (C i).2.2.1 (C i).2.2.2
def flC (b : Bk) (C : Nat → Cm) (i : Nat) : Nat := flB (bsq b C i) (C i).1 (C i).2.1 (C i).2.2.1 (nI (C i).2.2.2)
def fai (b : Bk) (C : Nat → Cm) (m : Nat) : Option Nat := fst? (fun i => decide (flC b C i ≠ 0)) m
section EX
variable {h : Hp}
/-- only the three books of a run change -/
def FZ (f f' : Nat → Nat → Int32) : Prop := ∀ a y, ¬(32 ≤ a ∧ a < 66) → ¬(83 ≤ a ∧ a < 221) → f' a y = f a y
theorem RrS.p (S : RrS h) : HR h 31 4 = 221 := S.f.2.2.2.2.2.1
theorem execute_ok (S : RrS h) (P : PgS h) {f : Nat → Nat → Int32} {b : Bk} (R : RK f 32 b) {y : Nat} (hB : Bd b y) {m : Nat} (hm : m ≤ 60) (hy : y + 100 * m < 1000000000) {hm8 : Nat} {H : HF} (RHh : RH f hm8 H) {C : Nat → Cm} (hC : ∀ j, j < m → CmC f j (C j)) (hok : ∀ j, j < m → okC (C j)) (h6 : f 221 6 = nI m) : match fai b C m with
    | some i => ∃ f', CL 70 [.ref 31] (wI h f) = some (.ok (.int (nI i)), wI h f') ∧ RK f' 32 b ∧ RH f' hm8 H ∧ FZ f f'
    | none => ∃ f', CL 70 [.ref 31] (wI h f) = some (.ok (.int (-nI 1)), wI h f') ∧ RK f' 32 (bsq b C m) ∧ RH f' (if hm8 < 8 then hm8 + 1 else 8) (puH b H) ∧ FZ f f' := by
  obtain ⟨g0, a1, a2, a3⟩ := cpBook_ok (h := wI h f) (B := 49) (C := 32) (S.br.wI f) (S.bk.wI f) (by omega)
  rw [wI_wI] at a1
  rw [HI_wI] at a2 a3
  have R0 := R.fr a3 (by omega)
  have R1 := a2 b R
  have key : ∀ (k i : Nat) (g : Nat → Nat → Int32) (v w z u : Value), i + k = m → RK g 32 (bsq b C i) → Bd (bsq b C i) (y + 100 * i) → RK g 49 b → (∀ a x, ¬(32 ≤ a ∧ a < 66) → g a x = f a x) → (∀ j, j < i → flC b C j = 0) → match fai b C m with
      | some i' => ∃ f', RF 70 13 [.ref 31, .int (nI i), v, w, z, u] [] (wI h g) = some (.ok (.int (nI i')), wI h f') ∧ RK f' 32 b ∧ RH f' hm8 H ∧ FZ f f'
      | none => ∃ f', RF 70 13 [.ref 31, .int (nI i), v, w, z, u] [] (wI h g) = some (.ok (.int (-nI 1)), wI h f') ∧ RK f' 32 (bsq b C m) ∧ RH f' (if hm8 < 8 then hm8 + 1 else 8) (puH b H) ∧ FZ f f' := by
    intro k
    induction k with
    | zero =>
      intro i g v w z u hk hR hBi hR2 hfr hno
      have e : i = m := by omega
      subst e
      have hf : fai b C i = none := fst_none.mpr (fun j hj => decide_eq_false (fun q => q (hno j hj)))
      rw [hf]
      dsimp only
      have g6 : g 221 6 = nI i := (hfr 221 6 (by omega)).trans h6
      have RHg := RHh.fr (g := g) (fun a x q1 q2 => hfr a x (by omega))
      obtain ⟨f', k1, k2, k3⟩ := keep_ok (h := wI h g) (S.wI g) (.inr rfl) hR2 RHg
      rw [wI_wI] at k1
      rw [HI_wI] at k3
      refine ⟨f', ?_, hR.fr k3 (by omega), k2, fun a x q1 q2 => (k3 a x (by omega)).trans (hfr a x q1)⟩
      rw [e70_13]
      simp (disch := omega) only [S.f, S.ks, S.hi, P.f, g6, k1, cond_true, cond_false, bI_ok, bI_er, bV_ok, bV_er, bR_ok, bR_er, bD_ok, bD_er, bF_ok, bF_er, thr_ap, cl_nI, lt_nI, le_nI, eq_nI, m1_lt, nI_m1, m1_nI, nI_lt_m1, add_nI, sub_nI, addm_nI, z_addm, z_subm, mul_nI, fit1_0, fit1_1, fit2_n, HI_wI, HK_wI, HL_wI, HR_wI, ckK_wI, chI_wI, sI_wI, wI_wI, lz0, lz1, lz2, lz3, lz4, lz5, lz6, lz7, lz8, lz9, lz10, lz12, lz13, lz16, lz17, lz20, lz21, lz23, lz26, lz30, lz32, lz35, lz40, lz45, lz48, lz57, lz58, lz59, lz60, lz61, lz63, lz64, lz97, lz99, lz100, lz110, lz111, lz126, lz129, lz132, lz133, lz166, lz169, lz255, lz999, lz1183, lz1800, Nat.reduceAdd, Nat.reduceLT, Nat.reduceEqDiff, Nat.not_lt_zero, Nat.lt_irrefl, ↓reduceIte, Nat.zero_add, Nat.add_zero, ne_eq, not_true_eq_false, not_false_eq_true, reduceCtorEq]
    | succ k ih =>
      intro i g v w z u hk hR hBi hR2 hfr hno
      have him : i < m := by omega
      have g6 : g 221 6 = nI m := (hfr 221 6 (by omega)).trans h6
      obtain ⟨c1, c2, c3, c4⟩ := hC i him
      obtain ⟨o1, o2, o3, o4⟩ := hok i him
      have g1 : g 223 i = nI (C i).1 := (hfr 223 i (by omega)).trans c1
      have g2 : g 224 i = nI (97 + (C i).2.1) := (hfr 224 i (by omega)).trans c2
      have g3 : g 225 i = nI (C i).2.2.1 := (hfr 225 i (by omega)).trans c3
      have g4 : g 226 i = nI (C i).2.2.2 := (hfr 226 i (by omega)).trans c4
      have hfl := faultOf_ok (h := wI h g) (S.bk.wI g) hR o1 o2 o3 (nI (C i).2.2.2)
      have hflt := flB_lt (bsq b C i) (C i).1 (C i).2.1 (C i).2.2.1 (nI (C i).2.2.2)
      by_cases q : flC b C i = 0
      · have q' : flB (bsq b C i) (C i).1 (C i).2.1 (C i).2.2.1 (nI (C i).2.2.2) = 0 := q
        obtain ⟨f1, k1, k2, k3⟩ := carryOut_ok (h := wI h g) (S.bk.wI g) hR hBi (by omega) o1 o2 o3 (nI (C i).2.2.2) q'
        rw [wI_wI] at k1
        rw [HI_wI] at k3
        rw [cl_nI (by omega)] at k1 k2
        rw [q'] at hfl
        have hB' := hBi.eff (j := (C i).1) (s := (C i).2.1) (k := (C i).2.2.1) (a := (C i).2.2.2) (by omega) hR.q.1
        have e : RF 70 13 [.ref 31, .int (nI i), v, w, z, u] [] (wI h g) = RF 70 13 [.ref 31, .int (nI (i + 1)), .int (nI (C i).1), .int (nI (97 + (C i).2.1)), .int (nI (C i).2.2.1), .int (nI (C i).2.2.2)] [] (wI h f1) := by
          rw [e70_13]
          simp (disch := omega) only [S.f, S.ks, P.f, P.c (show i < 60 by omega), g6, him, g1, g2, g3, g4, hfl, k1, cond_true, cond_false, bI_ok, bI_er, bV_ok, bV_er, bR_ok, bR_er, bD_ok, bD_er, bF_ok, bF_er, thr_ap, cl_nI, lt_nI, le_nI, eq_nI, m1_lt, nI_m1, m1_nI, nI_lt_m1, add_nI, sub_nI, addm_nI, z_addm, z_subm, mul_nI, fit1_0, fit1_1, fit2_n, HI_wI, HK_wI, HL_wI, HR_wI, ckK_wI, chI_wI, sI_wI, wI_wI, lz0, lz1, lz2, lz3, lz4, lz5, lz6, lz7, lz8, lz9, lz10, lz12, lz13, lz16, lz17, lz20, lz21, lz23, lz26, lz30, lz32, lz35, lz40, lz45, lz48, lz57, lz58, lz59, lz60, lz61, lz63, lz64, lz97, lz99, lz100, lz110, lz111, lz126, lz129, lz132, lz133, lz166, lz169, lz255, lz999, lz1183, lz1800, Nat.reduceAdd, Nat.reduceLT, Nat.reduceEqDiff, Nat.not_lt_zero, Nat.lt_irrefl, ↓reduceIte, Nat.zero_add, Nat.add_zero, ne_eq, not_true_eq_false, not_false_eq_true, reduceCtorEq]
        rw [e]
        exact ih (i + 1) f1 _ _ _ _ (by omega) k2 ⟨fun j hj => Nat.le_trans (hB'.1 j hj) (by omega), Nat.le_trans hB'.2 (by omega)⟩ (hR2.fr k3 (by omega)) (fun a x q1 => (k3 a x (by omega)).trans (hfr a x q1)) (fun j hj => by
          by_cases z : j = i
          · rw [z]
            exact q
          · exact hno j (by omega))
      · have hf : fai b C m = some i := fst_some.mpr ⟨him, decide_eq_true q, fun j hj => decide_eq_false (fun z => z (hno j hj))⟩
        rw [hf]
        dsimp only
        have q' : ¬(flB (bsq b C i) (C i).1 (C i).2.1 (C i).2.2.1 (nI (C i).2.2.2) = 0) := q
        obtain ⟨f1, k1, k2, k3⟩ := cpBook_ok (h := wI h g) (B := 32) (C := 49) (S.bk.wI g) (S.br.wI g) (by omega)
        rw [wI_wI] at k1
        rw [HI_wI] at k2 k3
        have RHg := RHh.fr (g := g) (fun a x q1 q2 => hfr a x (by omega))
        refine ⟨f1, ?_, k2 b hR2, RHg.fr (fun a x q1 q2 => k3 a x (by omega)), fun a x q1 q2 => (k3 a x (by omega)).trans (hfr a x q1)⟩
        rw [e70_13]
        simp (disch := omega) only [S.f, S.ks, P.f, P.c (show i < 60 by omega), g6, him, g1, g2, g3, g4, hfl, q', k1, cond_true, cond_false, bI_ok, bI_er, bV_ok, bV_er, bR_ok, bR_er, bD_ok, bD_er, bF_ok, bF_er, thr_ap, cl_nI, lt_nI, le_nI, eq_nI, m1_lt, nI_m1, m1_nI, nI_lt_m1, add_nI, sub_nI, addm_nI, z_addm, z_subm, mul_nI, fit1_0, fit1_1, fit2_n, HI_wI, HK_wI, HL_wI, HR_wI, ckK_wI, chI_wI, sI_wI, wI_wI, lz0, lz1, lz2, lz3, lz4, lz5, lz6, lz7, lz8, lz9, lz10, lz12, lz13, lz16, lz17, lz20, lz21, lz23, lz26, lz30, lz32, lz35, lz40, lz45, lz48, lz57, lz58, lz59, lz60, lz61, lz63, lz64, lz97, lz99, lz100, lz110, lz111, lz126, lz129, lz132, lz133, lz166, lz169, lz255, lz999, lz1183, lz1800, Nat.reduceAdd, Nat.reduceLT, Nat.reduceEqDiff, Nat.not_lt_zero, Nat.lt_irrefl, ↓reduceIte, Nat.zero_add, Nat.add_zero, ne_eq, not_true_eq_false, not_false_eq_true, reduceCtorEq]
  have e : CL 70 [.ref 31] (wI h f) = RF 70 13 [.ref 31, .int (nI 0), .null, .null, .null, .null] [] (wI h g0) := by
    rw [e70]
    simp (disch := omega) only [S.f, S.ks, a1, cond_true, cond_false, bI_ok, bI_er, bV_ok, bV_er, bR_ok, bR_er, bD_ok, bD_er, bF_ok, bF_er, thr_ap, cl_nI, lt_nI, le_nI, eq_nI, m1_lt, nI_m1, m1_nI, nI_lt_m1, add_nI, sub_nI, addm_nI, z_addm, z_subm, mul_nI, fit1_0, fit1_1, fit2_n, HI_wI, HK_wI, HL_wI, HR_wI, ckK_wI, chI_wI, sI_wI, wI_wI, lz0, lz1, lz2, lz3, lz4, lz5, lz6, lz7, lz8, lz9, lz10, lz12, lz13, lz16, lz17, lz20, lz21, lz23, lz26, lz30, lz32, lz35, lz40, lz45, lz48, lz57, lz58, lz59, lz60, lz61, lz63, lz64, lz97, lz99, lz100, lz110, lz111, lz126, lz129, lz132, lz133, lz166, lz169, lz255, lz999, lz1183, lz1800, Nat.reduceAdd, Nat.reduceLT, Nat.reduceEqDiff, Nat.not_lt_zero, Nat.lt_irrefl, ↓reduceIte, Nat.zero_add, Nat.add_zero, ne_eq, not_true_eq_false, not_false_eq_true, reduceCtorEq]
  rw [e]
  exact key m 0 g0 _ _ _ _ (by omega) R0 hB R1 (fun a x q => a3 a x (by omega)) (fun j hj => absurd hj (Nat.not_lt_zero j))
end EX
