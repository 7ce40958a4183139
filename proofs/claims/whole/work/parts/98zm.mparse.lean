/-! THE REFERENCE: a program read -/
def CmM (f : Nat → Nat → Int32) (t : Nat) (c : Cm) : Prop := f 252 (4 * t) = nI c.1 ∧ (c.1 < 2 ∨ (4 ≤ c.1 ∧ c.1 < 6) → f 252 (4 * t + 1) = nI (97 + c.2.1) ∧ f 252 (4 * t + 2) = nI c.2.2.1) ∧ (c.1 < 2 → f 252 (4 * t + 3) = nI c.2.2.2) ∧ (c.1 = 6 → f 252 (4 * t + 2) = nI c.2.2.2)
def FN (t : Nat) (f f' : Nat → Nat → Int32) : Prop := ∀ a y, ¬(a = 241 ∧ (y = 18 ∨ y = 19 ∨ y = 20)) → ¬(a = 252 ∧ 4 * t ≤ y ∧ y < 4 * t + 4) → f' a y = f a y
section RM3
variable {h : Hp} {x : Nat → Nat} {n : Nat}
theorem FW.fn {f f' : Nat → Nat → Int32} (H : FW f f') (t : Nat) : FN t f f' := fun a y h1 _ => H a y (by omega)
theorem FN.trans {t : Nat} {f g k : Nat → Nat → Int32} (H : FN t f g) (K : FN t g k) : FN t f k := fun a y h1 h2 => (K a y h1 h2).trans (H a y h1 h2)
theorem TM.fn {f f' : Nat → Nat → Int32} (T : TM f x n) {t : Nat} (H : FN t f f') : TM f' x n := ⟨(H 241 17 (by omega) (by omega)).trans T.1, T.2.1, fun i hi => by rw [H 250 i (by omega) (by omega)]; exact T.2.2 i hi⟩
theorem FN.u {t : Nat} {f g : Nat → Nat → Int32} (H : FN t f g) {a y : Nat} {v : Int32} (h : (a = 241 ∧ (y = 18 ∨ y = 19 ∨ y = 20)) ∨ (a = 252 ∧ 4 * t ≤ y ∧ y < 4 * t + 4)) : FN t f (u2 g a y v) := fun b z h1 h2 => (w2_ne (by omega)).trans (H b z h1 h2)
/-- what readsCommand brings -/
def RmQ (h : Hp) (x : Nat → Nat) (n p t : Nat) (f : Nat → Nat → Int32) (res : Res) : Prop := match cmdA x n p with
  | .ok r => ∃ f', res = some (.ok .null, wI h f') ∧ f' 241 18 = nI r.2 ∧ f' 241 19 = -nI 1 ∧ f' 241 20 = nI (t + 1) ∧ CmM f' t r.1 ∧ FN t f f'
  | .error e => ∃ f', res = some (.ok .null, wI h f') ∧ f' 241 19 = nI e ∧ f' 241 20 = nI (t + 1) ∧ FN t f f'
theorem readsCommand_ok (S : MdS h) (K : KoS h) {f : Nat → Nat → Int32} (F : Ko f) (T : TM f x n) {p t : Nat} (hw : f 241 19 = -nI 1) (hp : f 241 18 = nI p) (hpn : p ≤ n) (ht : f 241 20 = nI t) (ht30 : t < 30) : RmQ h x n p t f (CL 331 [.ref 241] (wI h f)) := by
  have n60 := T.2.1
  have hkh := kindHere_ok S K F T hw hp hpn
  have hcb := cmdA_b (x := x) hpn
  unfold RmQ
  unfold cmdA at hcb ⊢
  cases hq : kwA x n p with
  | none =>
    have hlg := (lgA_n (x := x) hpn 7).1
    have hk := hkh.2 hq
    dsimp only
    have g9 : u2 (u2 (u2 f 241 19 (nI (p + lgA x n p 7))) 252 (4 * t) (-nI 1)) 241 20 (nI (t + 1)) 241 19 = nI (p + lgA x n p 7) := by rw [w2_ne (by omega), w2_ne (by omega), w2_eq]
    have g0 : u2 (u2 f 241 19 (nI (p + lgA x n p 7))) 252 (4 * t) (-nI 1) 241 20 = nI t := by rw [w2_ne (by omega), w2_ne (by omega)]; exact ht
    refine ⟨u2 (u2 (u2 f 241 19 (nI (p + lgA x n p 7))) 252 (4 * t) (-nI 1)) 241 20 (nI (t + 1)), ?_, g9, w2_eq _ _ _ _, ((FN.u (fun _ _ _ _ => rfl) (by omega)).u (by omega)).u (by omega)⟩
    rw [e331]
    simp (disch := omega) only [S.f, S.nc (show 4 * t < 120 by omega), hk, ht, g0, g9, cond_true, cond_false, bI_ok, bI_er, bV_ok, bV_er, bR_ok, bR_er, bD_ok, bD_er, bF_ok, bF_er, thr_ap, cl_nI, lt_nI, le_nI, eq_nI, m1_lt, nI_m1, m1_nI, nI_lt_m1, add_nI, sub_nI, addm_nI, z_addm, z_subm, mul_nI, fit1_0, fit1_1, fit2_n, HI_wI, HK_wI, HL_wI, HR_wI, ckK_wI, chI_wI, sI_wI, wI_wI, lz0, lz1, lz2, lz3, lz4, lz5, lz6, lz7, lz8, lz9, lz10, lz12, lz13, lz16, lz17, lz20, lz21, lz23, lz26, lz30, lz32, lz35, lz40, lz45, lz48, lz57, lz58, lz59, lz60, lz61, lz63, lz64, lz97, lz99, lz100, lz110, lz111, lz126, lz129, lz132, lz133, lz166, lz169, lz255, lz999, lz1183, lz1800, Nat.reduceAdd, Nat.reduceLT, Nat.reduceEqDiff, Nat.not_lt_zero, Nat.lt_irrefl, ↓reduceIte, Nat.zero_add, Nat.add_zero, ne_eq, not_true_eq_false, not_false_eq_true, reduceCtorEq]
  | some w =>
    rw [hq] at hcb
    have hk := hkh.1 w hq
    have hw7 := (fst_some.mp hq).1
    have hpw : p + lln (12 + 2 * w) ≤ n := by
      have h1 := of_decide_eq_true (fst_some.mp hq).2.1
      have h2 := cmm_n (x := x) (a := 12 + 2 * w) hpn
      omega
    dsimp only at hcb ⊢
    have H1 : FN t f (u2 (u2 (u2 f 241 18 (nI (p + lln (12 + 2 * w)))) 252 (4 * t) (nI w)) 241 20 (nI (t + 1))) := ((FN.u (fun _ _ _ _ => rfl) (by omega)).u (by omega)).u (by omega)
    have g0 : u2 (u2 f 241 18 (nI (p + lln (12 + 2 * w)))) 252 (4 * t) (nI w) 241 20 = nI t := by rw [w2_ne (by omega), w2_ne (by omega)]; exact ht
    have g8 : u2 (u2 (u2 f 241 18 (nI (p + lln (12 + 2 * w)))) 252 (4 * t) (nI w)) 241 20 (nI (t + 1)) 241 18 = nI (p + lln (12 + 2 * w)) := by rw [w2_ne (by omega), w2_ne (by omega), w2_eq]
    have g9 : u2 (u2 (u2 f 241 18 (nI (p + lln (12 + 2 * w)))) 252 (4 * t) (nI w)) 241 20 (nI (t + 1)) 241 19 = -nI 1 := by rw [w2_ne (by omega), w2_ne (by omega), w2_ne (by omega)]; exact hw
    have gk : u2 (u2 (u2 f 241 18 (nI (p + lln (12 + 2 * w)))) 252 (4 * t) (nI w)) 241 20 (nI (t + 1)) 252 (4 * t) = nI w := by rw [w2_ne (by omega), w2_eq]
    have gt : u2 (u2 (u2 f 241 18 (nI (p + lln (12 + 2 * w)))) 252 (4 * t) (nI w)) 241 20 (nI (t + 1)) 241 20 = nI (t + 1) := w2_eq _ _ _ _
    have T1 := T.fn H1
    generalize hf1 : u2 (u2 (u2 f 241 18 (nI (p + lln (12 + 2 * w)))) 252 (4 * t) (nI w)) 241 20 (nI (t + 1)) = f1 at *
    generalize hpp : p + lln (12 + 2 * w) = p1 at *
    by_cases q1 : w = 2 ∨ w = 3
    · rw [if_pos q1]
      dsimp only
      refine ⟨f1, ?_, g8, g9, gt, ⟨gk, fun z => ?_, fun z => ?_, fun z => ?_⟩, H1⟩
      · rw [e331]
        rcases q1 with rfl | rfl
        · simp (disch := omega) only [S.f, S.nc (show 4 * t < 120 by omega), hk, ht, g0, hf1, g9, cond_true, cond_false, bI_ok, bI_er, bV_ok, bV_er, bR_ok, bR_er, bD_ok, bD_er, bF_ok, bF_er, thr_ap, cl_nI, lt_nI, le_nI, eq_nI, m1_lt, nI_m1, m1_nI, nI_lt_m1, add_nI, sub_nI, addm_nI, z_addm, z_subm, mul_nI, fit1_0, fit1_1, fit2_n, HI_wI, HK_wI, HL_wI, HR_wI, ckK_wI, chI_wI, sI_wI, wI_wI, lz0, lz1, lz2, lz3, lz4, lz5, lz6, lz7, lz8, lz9, lz10, lz12, lz13, lz16, lz17, lz20, lz21, lz23, lz26, lz30, lz32, lz35, lz40, lz45, lz48, lz57, lz58, lz59, lz60, lz61, lz63, lz64, lz97, lz99, lz100, lz110, lz111, lz126, lz129, lz132, lz133, lz166, lz169, lz255, lz999, lz1183, lz1800, Nat.reduceAdd, Nat.reduceLT, Nat.reduceEqDiff, Nat.not_lt_zero, Nat.lt_irrefl, ↓reduceIte, Nat.zero_add, Nat.add_zero, ne_eq, not_true_eq_false, not_false_eq_true, reduceCtorEq]
        · simp (disch := omega) only [S.f, S.nc (show 4 * t < 120 by omega), hk, ht, g0, hf1, g9, cond_true, cond_false, bI_ok, bI_er, bV_ok, bV_er, bR_ok, bR_er, bD_ok, bD_er, bF_ok, bF_er, thr_ap, cl_nI, lt_nI, le_nI, eq_nI, m1_lt, nI_m1, m1_nI, nI_lt_m1, add_nI, sub_nI, addm_nI, z_addm, z_subm, mul_nI, fit1_0, fit1_1, fit2_n, HI_wI, HK_wI, HL_wI, HR_wI, ckK_wI, chI_wI, sI_wI, wI_wI, lz0, lz1, lz2, lz3, lz4, lz5, lz6, lz7, lz8, lz9, lz10, lz12, lz13, lz16, lz17, lz20, lz21, lz23, lz26, lz30, lz32, lz35, lz40, lz45, lz48, lz57, lz58, lz59, lz60, lz61, lz63, lz64, lz97, lz99, lz100, lz110, lz111, lz126, lz129, lz132, lz133, lz166, lz169, lz255, lz999, lz1183, lz1800, Nat.reduceAdd, Nat.reduceLT, Nat.reduceEqDiff, Nat.not_lt_zero, Nat.lt_irrefl, ↓reduceIte, Nat.zero_add, Nat.add_zero, ne_eq, not_true_eq_false, not_false_eq_true, reduceCtorEq]
      · dsimp only at z
        omega
      · dsimp only at z
        omega
      · dsimp only at z
        omega
    · rw [if_neg q1] at hcb ⊢
      by_cases q2 : w = 6
      · rw [if_pos q2]
        subst q2
        obtain ⟨n1, n2⟩ := number_ok S T1 (most := 2) g9 g8 hpw (by decide) (by decide)
        cases hn : numA' x n 2 p1 with
        | none =>
          dsimp only
          obtain ⟨f2, k1, k2, k3⟩ := n2 hn
          have g9' : u2 f2 252 (4 * t + 2) (nI 0) 241 19 = nI p1 := (w2_ne (by omega)).trans k2
          refine ⟨u2 f2 252 (4 * t + 2) (nI 0), ?_, g9', ?_, (H1.trans (k3.fn t)).u (by omega)⟩
          · rw [e331]
            simp (disch := omega) only [S.f, S.nc (show 4 * t < 120 by omega), S.nc (show 4 * t + 2 < 120 by omega), hk, ht, g0, hf1, g9, k1, cond_true, cond_false, bI_ok, bI_er, bV_ok, bV_er, bR_ok, bR_er, bD_ok, bD_er, bF_ok, bF_er, thr_ap, cl_nI, lt_nI, le_nI, eq_nI, m1_lt, nI_m1, m1_nI, nI_lt_m1, add_nI, sub_nI, addm_nI, z_addm, z_subm, mul_nI, fit1_0, fit1_1, fit2_n, HI_wI, HK_wI, HL_wI, HR_wI, ckK_wI, chI_wI, sI_wI, wI_wI, lz0, lz1, lz2, lz3, lz4, lz5, lz6, lz7, lz8, lz9, lz10, lz12, lz13, lz16, lz17, lz20, lz21, lz23, lz26, lz30, lz32, lz35, lz40, lz45, lz48, lz57, lz58, lz59, lz60, lz61, lz63, lz64, lz97, lz99, lz100, lz110, lz111, lz126, lz129, lz132, lz133, lz166, lz169, lz255, lz999, lz1183, lz1800, Nat.reduceAdd, Nat.reduceLT, Nat.reduceEqDiff, Nat.not_lt_zero, Nat.lt_irrefl, ↓reduceIte, Nat.zero_add, Nat.add_zero, ne_eq, not_true_eq_false, not_false_eq_true, reduceCtorEq]
          · rw [w2_ne (by omega), k3 241 20 (by omega)]
            exact gt
        | some r =>
          dsimp only
          obtain ⟨f2, k1, k2, k3, k4⟩ := n1 r hn
          refine ⟨u2 f2 252 (4 * t + 2) (nI r.1), ?_, (w2_ne (by omega)).trans k2, (w2_ne (by omega)).trans k3, ?_, ⟨?_, fun z => ?_, fun z => ?_, fun _ => w2_eq _ _ _ _⟩, (H1.trans (k4.fn t)).u (by omega)⟩
          · rw [e331]
            simp (disch := omega) only [S.f, S.nc (show 4 * t < 120 by omega), S.nc (show 4 * t + 2 < 120 by omega), hk, ht, g0, hf1, g9, k1, cond_true, cond_false, bI_ok, bI_er, bV_ok, bV_er, bR_ok, bR_er, bD_ok, bD_er, bF_ok, bF_er, thr_ap, cl_nI, lt_nI, le_nI, eq_nI, m1_lt, nI_m1, m1_nI, nI_lt_m1, add_nI, sub_nI, addm_nI, z_addm, z_subm, mul_nI, fit1_0, fit1_1, fit2_n, HI_wI, HK_wI, HL_wI, HR_wI, ckK_wI, chI_wI, sI_wI, wI_wI, lz0, lz1, lz2, lz3, lz4, lz5, lz6, lz7, lz8, lz9, lz10, lz12, lz13, lz16, lz17, lz20, lz21, lz23, lz26, lz30, lz32, lz35, lz40, lz45, lz48, lz57, lz58, lz59, lz60, lz61, lz63, lz64, lz97, lz99, lz100, lz110, lz111, lz126, lz129, lz132, lz133, lz166, lz169, lz255, lz999, lz1183, lz1800, Nat.reduceAdd, Nat.reduceLT, Nat.reduceEqDiff, Nat.not_lt_zero, Nat.lt_irrefl, ↓reduceIte, Nat.zero_add, Nat.add_zero, ne_eq, not_true_eq_false, not_false_eq_true, reduceCtorEq]
          · rw [w2_ne (by omega), k4 241 20 (by omega)]
            exact gt
          · rw [w2_ne (by omega), k4 252 (4 * t) (by omega)]
            exact gk
          · dsimp only at z
            omega
          · dsimp only at z
            omega
      · rw [if_neg q2] at hcb ⊢
        have hrs := reads_ok S T1 (lo := 97) (hi := 99) g9 g8 hpw (by decide) (by decide)
        by_cases q3 : p1 < n ∧ 97 ≤ x p1 ∧ x p1 ≤ 99
        · rw [if_pos q3] at hrs hcb ⊢
          have H2 : FN t f (u2 (u2 f1 241 18 (nI (p1 + 1))) 252 (4 * t + 1) (nI (x p1))) := (H1.u (by omega)).u (by omega)
          have T2 := T.fn H2
          obtain ⟨n1, n2⟩ := number_ok S T2 (p := p1 + 1) (most := 3) (by rw [w2_ne (by omega), w2_ne (by omega)]; exact g9) (by rw [w2_ne (by omega), w2_eq]) (by omega) (by decide) (by decide)
          have gl : u2 (u2 f1 241 18 (nI (p1 + 1))) 252 (4 * t + 1) (nI (x p1)) 252 (4 * t + 1) = nI (x p1) := w2_eq _ _ _ _
          have gk2 : u2 (u2 f1 241 18 (nI (p1 + 1))) 252 (4 * t + 1) (nI (x p1)) 252 (4 * t) = nI w := by rw [w2_ne (by omega), w2_ne (by omega)]; exact gk
          have gt2 : u2 (u2 f1 241 18 (nI (p1 + 1))) 252 (4 * t + 1) (nI (x p1)) 241 20 = nI (t + 1) := by rw [w2_ne (by omega), w2_ne (by omega)]; exact gt
          generalize hf2 : u2 (u2 f1 241 18 (nI (p1 + 1))) 252 (4 * t + 1) (nI (x p1)) = f2 at *
          cases hn : numA' x n 3 (p1 + 1) with
          | none =>
            dsimp only
            obtain ⟨f3, k1, k2, k3⟩ := n2 hn
            have g9' : u2 f3 252 (4 * t + 2) (nI 0) 241 19 = nI (p1 + 1) := (w2_ne (by omega)).trans k2
            have gt3 : u2 f3 252 (4 * t + 2) (nI 0) 241 20 = nI (t + 1) := by rw [w2_ne (by omega), k3 241 20 (by omega)]; exact gt2
            by_cases z : w < 2
            · have r1 := reads_w S (lo := 61) (hi := 61) g9' (by omega)
              have r2 := number_w S (most := 2) g9' (by omega) (by decide)
              refine ⟨u2 (u2 f3 252 (4 * t + 2) (nI 0)) 252 (4 * t + 3) (nI 0), ?_, (w2_ne (by omega)).trans g9', (w2_ne (by omega)).trans gt3, ((H2.trans (k3.fn t)).u (by omega)).u (by omega)⟩
              rw [e331]
              simp (disch := omega) only [S.f, S.nc (show 4 * t < 120 by omega), S.nc (show 4 * t + 1 < 120 by omega), S.nc (show 4 * t + 2 < 120 by omega), S.nc (show 4 * t + 3 < 120 by omega), hk, ht, g0, hf1, g9, show ¬(w = 2) by omega, show ¬(w = 3) by omega, q2, hrs, hf2, k1, z, r1, r2, cond_true, cond_false, bI_ok, bI_er, bV_ok, bV_er, bR_ok, bR_er, bD_ok, bD_er, bF_ok, bF_er, thr_ap, cl_nI, lt_nI, le_nI, eq_nI, m1_lt, nI_m1, m1_nI, nI_lt_m1, add_nI, sub_nI, addm_nI, z_addm, z_subm, mul_nI, fit1_0, fit1_1, fit2_n, HI_wI, HK_wI, HL_wI, HR_wI, ckK_wI, chI_wI, sI_wI, wI_wI, lz0, lz1, lz2, lz3, lz4, lz5, lz6, lz7, lz8, lz9, lz10, lz12, lz13, lz16, lz17, lz20, lz21, lz23, lz26, lz30, lz32, lz35, lz40, lz45, lz48, lz57, lz58, lz59, lz60, lz61, lz63, lz64, lz97, lz99, lz100, lz110, lz111, lz126, lz129, lz132, lz133, lz166, lz169, lz255, lz999, lz1183, lz1800, Nat.reduceAdd, Nat.reduceLT, Nat.reduceEqDiff, Nat.not_lt_zero, Nat.lt_irrefl, ↓reduceIte, Nat.zero_add, Nat.add_zero, ne_eq, not_true_eq_false, not_false_eq_true, reduceCtorEq]
            · refine ⟨u2 f3 252 (4 * t + 2) (nI 0), ?_, g9', gt3, (H2.trans (k3.fn t)).u (by omega)⟩
              rw [e331]
              simp (disch := omega) only [S.f, S.nc (show 4 * t < 120 by omega), S.nc (show 4 * t + 1 < 120 by omega), S.nc (show 4 * t + 2 < 120 by omega), hk, ht, g0, hf1, g9, show ¬(w = 2) by omega, show ¬(w = 3) by omega, q2, hrs, hf2, k1, z, cond_true, cond_false, bI_ok, bI_er, bV_ok, bV_er, bR_ok, bR_er, bD_ok, bD_er, bF_ok, bF_er, thr_ap, cl_nI, lt_nI, le_nI, eq_nI, m1_lt, nI_m1, m1_nI, nI_lt_m1, add_nI, sub_nI, addm_nI, z_addm, z_subm, mul_nI, fit1_0, fit1_1, fit2_n, HI_wI, HK_wI, HL_wI, HR_wI, ckK_wI, chI_wI, sI_wI, wI_wI, lz0, lz1, lz2, lz3, lz4, lz5, lz6, lz7, lz8, lz9, lz10, lz12, lz13, lz16, lz17, lz20, lz21, lz23, lz26, lz30, lz32, lz35, lz40, lz45, lz48, lz57, lz58, lz59, lz60, lz61, lz63, lz64, lz97, lz99, lz100, lz110, lz111, lz126, lz129, lz132, lz133, lz166, lz169, lz255, lz999, lz1183, lz1800, Nat.reduceAdd, Nat.reduceLT, Nat.reduceEqDiff, Nat.not_lt_zero, Nat.lt_irrefl, ↓reduceIte, Nat.zero_add, Nat.add_zero, ne_eq, not_true_eq_false, not_false_eq_true, reduceCtorEq]
          | some r =>
            dsimp only
            obtain ⟨f3, k1, k2, k3, k4⟩ := n1 r hn
            have hrb := numA_b (by decide) hn
            have H3 : FN t f (u2 f3 252 (4 * t + 2) (nI r.1)) := (H2.trans (k4.fn t)).u (by omega)
            have T3 := T.fn H3
            have g8' : u2 f3 252 (4 * t + 2) (nI r.1) 241 18 = nI r.2 := (w2_ne (by omega)).trans k2
            have g9' : u2 f3 252 (4 * t + 2) (nI r.1) 241 19 = -nI 1 := (w2_ne (by omega)).trans k3
            have gt3 : u2 f3 252 (4 * t + 2) (nI r.1) 241 20 = nI (t + 1) := by rw [w2_ne (by omega), k4 241 20 (by omega)]; exact gt2
            have gk3 : u2 f3 252 (4 * t + 2) (nI r.1) 252 (4 * t) = nI w := by rw [w2_ne (by omega), k4 252 _ (by omega)]; exact gk2
            have gl3 : u2 f3 252 (4 * t + 2) (nI r.1) 252 (4 * t + 1) = nI (x p1) := by rw [w2_ne (by omega), k4 252 _ (by omega)]; exact gl
            have gv3 : u2 f3 252 (4 * t + 2) (nI r.1) 252 (4 * t + 2) = nI r.1 := w2_eq _ _ _ _
            have ex : 97 + (x p1 - 97) = x p1 := by omega
            by_cases z : 2 ≤ w
            · rw [if_pos z]
              dsimp only
              generalize hf3 : u2 f3 252 (4 * t + 2) (nI r.1) = f4 at *
              refine ⟨f4, ?_, g8', g9', gt3, ⟨gk3, fun _ => ⟨by dsimp only; rw [ex]; exact gl3, gv3⟩, fun y => ?_, fun y => ?_⟩, H3⟩
              · rw [e331]
                simp (disch := omega) only [S.f, S.nc (show 4 * t < 120 by omega), S.nc (show 4 * t + 1 < 120 by omega), S.nc (show 4 * t + 2 < 120 by omega), hk, ht, g0, hf1, g9, show ¬(w = 2) by omega, show ¬(w = 3) by omega, q2, hrs, hf2, k1, hf3, show ¬(w < 2) by omega, cond_true, cond_false, bI_ok, bI_er, bV_ok, bV_er, bR_ok, bR_er, bD_ok, bD_er, bF_ok, bF_er, thr_ap, cl_nI, lt_nI, le_nI, eq_nI, m1_lt, nI_m1, m1_nI, nI_lt_m1, add_nI, sub_nI, addm_nI, z_addm, z_subm, mul_nI, fit1_0, fit1_1, fit2_n, HI_wI, HK_wI, HL_wI, HR_wI, ckK_wI, chI_wI, sI_wI, wI_wI, lz0, lz1, lz2, lz3, lz4, lz5, lz6, lz7, lz8, lz9, lz10, lz12, lz13, lz16, lz17, lz20, lz21, lz23, lz26, lz30, lz32, lz35, lz40, lz45, lz48, lz57, lz58, lz59, lz60, lz61, lz63, lz64, lz97, lz99, lz100, lz110, lz111, lz126, lz129, lz132, lz133, lz166, lz169, lz255, lz999, lz1183, lz1800, Nat.reduceAdd, Nat.reduceLT, Nat.reduceEqDiff, Nat.not_lt_zero, Nat.lt_irrefl, ↓reduceIte, Nat.zero_add, Nat.add_zero, ne_eq, not_true_eq_false, not_false_eq_true, reduceCtorEq]
              · dsimp only at y
                omega
              · dsimp only at y
                omega
            · rw [if_neg z]
              have hrs2 := reads_ok S T3 (lo := 61) (hi := 61) g9' g8' hrb.2.2 (by decide) (by decide)
              generalize hf3 : u2 f3 252 (4 * t + 2) (nI r.1) = f4 at *
              by_cases q5 : r.2 < n ∧ x r.2 = 61
              · rw [if_pos q5]
                rw [if_pos ⟨q5.1, by omega, by omega⟩] at hrs2
                have H4 : FN t f (u2 f4 241 18 (nI (r.2 + 1))) := H3.u (by omega)
                have T4 := T.fn H4
                obtain ⟨n3, n4⟩ := number_ok S T4 (p := r.2 + 1) (most := 2) ((w2_ne (by omega)).trans g9') (w2_eq _ _ _ _) (by omega) (by decide) (by decide)
                cases hn2 : numA' x n 2 (r.2 + 1) with
                | none =>
                  dsimp only
                  obtain ⟨f5, m1, m2, m3⟩ := n4 hn2
                  refine ⟨u2 f5 252 (4 * t + 3) (nI 0), ?_, (w2_ne (by omega)).trans m2, ?_, (H4.trans (m3.fn t)).u (by omega)⟩
                  · rw [e331]
                    simp (disch := omega) only [S.f, S.nc (show 4 * t < 120 by omega), S.nc (show 4 * t + 1 < 120 by omega), S.nc (show 4 * t + 2 < 120 by omega), S.nc (show 4 * t + 3 < 120 by omega), hk, ht, g0, hf1, g9, show ¬(w = 2) by omega, show ¬(w = 3) by omega, q2, hrs, hf2, k1, hf3, show w < 2 by omega, hrs2, m1, cond_true, cond_false, bI_ok, bI_er, bV_ok, bV_er, bR_ok, bR_er, bD_ok, bD_er, bF_ok, bF_er, thr_ap, cl_nI, lt_nI, le_nI, eq_nI, m1_lt, nI_m1, m1_nI, nI_lt_m1, add_nI, sub_nI, addm_nI, z_addm, z_subm, mul_nI, fit1_0, fit1_1, fit2_n, HI_wI, HK_wI, HL_wI, HR_wI, ckK_wI, chI_wI, sI_wI, wI_wI, lz0, lz1, lz2, lz3, lz4, lz5, lz6, lz7, lz8, lz9, lz10, lz12, lz13, lz16, lz17, lz20, lz21, lz23, lz26, lz30, lz32, lz35, lz40, lz45, lz48, lz57, lz58, lz59, lz60, lz61, lz63, lz64, lz97, lz99, lz100, lz110, lz111, lz126, lz129, lz132, lz133, lz166, lz169, lz255, lz999, lz1183, lz1800, Nat.reduceAdd, Nat.reduceLT, Nat.reduceEqDiff, Nat.not_lt_zero, Nat.lt_irrefl, ↓reduceIte, Nat.zero_add, Nat.add_zero, ne_eq, not_true_eq_false, not_false_eq_true, reduceCtorEq]
                  · rw [w2_ne (by omega), m3 241 20 (by omega), w2_ne (by omega)]
                    exact gt3
                | some r' =>
                  dsimp only
                  obtain ⟨f5, m1, m2, m3, m4⟩ := n3 r' hn2
                  refine ⟨u2 f5 252 (4 * t + 3) (nI r'.1), ?_, (w2_ne (by omega)).trans m2, (w2_ne (by omega)).trans m3, ?_, ⟨?_, fun _ => ⟨?_, ?_⟩, fun _ => w2_eq _ _ _ _, fun y => ?_⟩, (H4.trans (m4.fn t)).u (by omega)⟩
                  · rw [e331]
                    simp (disch := omega) only [S.f, S.nc (show 4 * t < 120 by omega), S.nc (show 4 * t + 1 < 120 by omega), S.nc (show 4 * t + 2 < 120 by omega), S.nc (show 4 * t + 3 < 120 by omega), hk, ht, g0, hf1, g9, show ¬(w = 2) by omega, show ¬(w = 3) by omega, q2, hrs, hf2, k1, hf3, show w < 2 by omega, hrs2, m1, cond_true, cond_false, bI_ok, bI_er, bV_ok, bV_er, bR_ok, bR_er, bD_ok, bD_er, bF_ok, bF_er, thr_ap, cl_nI, lt_nI, le_nI, eq_nI, m1_lt, nI_m1, m1_nI, nI_lt_m1, add_nI, sub_nI, addm_nI, z_addm, z_subm, mul_nI, fit1_0, fit1_1, fit2_n, HI_wI, HK_wI, HL_wI, HR_wI, ckK_wI, chI_wI, sI_wI, wI_wI, lz0, lz1, lz2, lz3, lz4, lz5, lz6, lz7, lz8, lz9, lz10, lz12, lz13, lz16, lz17, lz20, lz21, lz23, lz26, lz30, lz32, lz35, lz40, lz45, lz48, lz57, lz58, lz59, lz60, lz61, lz63, lz64, lz97, lz99, lz100, lz110, lz111, lz126, lz129, lz132, lz133, lz166, lz169, lz255, lz999, lz1183, lz1800, Nat.reduceAdd, Nat.reduceLT, Nat.reduceEqDiff, Nat.not_lt_zero, Nat.lt_irrefl, ↓reduceIte, Nat.zero_add, Nat.add_zero, ne_eq, not_true_eq_false, not_false_eq_true, reduceCtorEq]
                  · rw [w2_ne (by omega), m4 241 20 (by omega), w2_ne (by omega)]
                    exact gt3
                  · rw [w2_ne (by omega), m4 252 _ (by omega), w2_ne (by omega)]
                    exact gk3
                  · dsimp only
                    rw [w2_ne (by omega), m4 252 _ (by omega), w2_ne (by omega), ex]
                    exact gl3
                  · rw [w2_ne (by omega), m4 252 _ (by omega), w2_ne (by omega)]
                    exact gv3
                  · dsimp only at y
                    omega
              · rw [if_neg q5]
                rw [if_neg (fun y => q5 ⟨y.1, by omega⟩)] at hrs2
                dsimp only
                have g9'' : u2 f4 241 19 (nI r.2) 241 19 = nI r.2 := w2_eq _ _ _ _
                have r2 := number_w S (most := 2) g9'' (by omega) (by decide)
                refine ⟨u2 (u2 f4 241 19 (nI r.2)) 252 (4 * t + 3) (nI 0), ?_, (w2_ne (by omega)).trans g9'', ?_, (H3.u (by omega)).u (by omega)⟩
                · rw [e331]
                  simp (disch := omega) only [S.f, S.nc (show 4 * t < 120 by omega), S.nc (show 4 * t + 1 < 120 by omega), S.nc (show 4 * t + 2 < 120 by omega), S.nc (show 4 * t + 3 < 120 by omega), hk, ht, g0, hf1, g9, show ¬(w = 2) by omega, show ¬(w = 3) by omega, q2, hrs, hf2, k1, hf3, show w < 2 by omega, hrs2, r2, cond_true, cond_false, bI_ok, bI_er, bV_ok, bV_er, bR_ok, bR_er, bD_ok, bD_er, bF_ok, bF_er, thr_ap, cl_nI, lt_nI, le_nI, eq_nI, m1_lt, nI_m1, m1_nI, nI_lt_m1, add_nI, sub_nI, addm_nI, z_addm, z_subm, mul_nI, fit1_0, fit1_1, fit2_n, HI_wI, HK_wI, HL_wI, HR_wI, ckK_wI, chI_wI, sI_wI, wI_wI, lz0, lz1, lz2, lz3, lz4, lz5, lz6, lz7, lz8, lz9, lz10, lz12, lz13, lz16, lz17, lz20, lz21, lz23, lz26, lz30, lz32, lz35, lz40, lz45, lz48, lz57, lz58, lz59, lz60, lz61, lz63, lz64, lz97, lz99, lz100, lz110, lz111, lz126, lz129, lz132, lz133, lz166, lz169, lz255, lz999, lz1183, lz1800, Nat.reduceAdd, Nat.reduceLT, Nat.reduceEqDiff, Nat.not_lt_zero, Nat.lt_irrefl, ↓reduceIte, Nat.zero_add, Nat.add_zero, ne_eq, not_true_eq_false, not_false_eq_true, reduceCtorEq]
                · rw [w2_ne (by omega), w2_ne (by omega)]
                  exact gt3
        · rw [if_neg q3] at hrs ⊢
          dsimp only
          have g9' : u2 (u2 f1 241 19 (nI p1)) 252 (4 * t + 1) (nI 48) 241 19 = nI p1 := by rw [w2_ne (by omega), w2_eq]
          have gt' : u2 (u2 f1 241 19 (nI p1)) 252 (4 * t + 1) (nI 48) 241 20 = nI (t + 1) := by rw [w2_ne (by omega), w2_ne (by omega)]; exact gt
          have H2 : FN t f (u2 (u2 f1 241 19 (nI p1)) 252 (4 * t + 1) (nI 48)) := (H1.u (by omega)).u (by omega)
          have r1 := number_w S (most := 3) g9' (by omega) (by decide)
          generalize hf2 : u2 (u2 f1 241 19 (nI p1)) 252 (4 * t + 1) (nI 48) = f2 at *
          have g9'' : u2 f2 252 (4 * t + 2) (nI 0) 241 19 = nI p1 := (w2_ne (by omega)).trans g9'
          by_cases z : w < 2
          · have r2 := reads_w S (lo := 61) (hi := 61) g9'' (by omega)
            have r3 := number_w S (most := 2) g9'' (by omega) (by decide)
            refine ⟨u2 (u2 f2 252 (4 * t + 2) (nI 0)) 252 (4 * t + 3) (nI 0), ?_, (w2_ne (by omega)).trans g9'', ?_, (H2.u (by omega)).u (by omega)⟩
            · rw [e331]
              simp (disch := omega) only [S.f, S.nc (show 4 * t < 120 by omega), S.nc (show 4 * t + 1 < 120 by omega), S.nc (show 4 * t + 2 < 120 by omega), S.nc (show 4 * t + 3 < 120 by omega), hk, ht, g0, hf1, g9, show ¬(w = 2) by omega, show ¬(w = 3) by omega, q2, hrs, hf2, r1, z, r2, r3, cond_true, cond_false, bI_ok, bI_er, bV_ok, bV_er, bR_ok, bR_er, bD_ok, bD_er, bF_ok, bF_er, thr_ap, cl_nI, lt_nI, le_nI, eq_nI, m1_lt, nI_m1, m1_nI, nI_lt_m1, add_nI, sub_nI, addm_nI, z_addm, z_subm, mul_nI, fit1_0, fit1_1, fit2_n, HI_wI, HK_wI, HL_wI, HR_wI, ckK_wI, chI_wI, sI_wI, wI_wI, lz0, lz1, lz2, lz3, lz4, lz5, lz6, lz7, lz8, lz9, lz10, lz12, lz13, lz16, lz17, lz20, lz21, lz23, lz26, lz30, lz32, lz35, lz40, lz45, lz48, lz57, lz58, lz59, lz60, lz61, lz63, lz64, lz97, lz99, lz100, lz110, lz111, lz126, lz129, lz132, lz133, lz166, lz169, lz255, lz999, lz1183, lz1800, Nat.reduceAdd, Nat.reduceLT, Nat.reduceEqDiff, Nat.not_lt_zero, Nat.lt_irrefl, ↓reduceIte, Nat.zero_add, Nat.add_zero, ne_eq, not_true_eq_false, not_false_eq_true, reduceCtorEq]
            · rw [w2_ne (by omega), w2_ne (by omega)]
              exact gt'
          · refine ⟨u2 f2 252 (4 * t + 2) (nI 0), ?_, g9'', (w2_ne (by omega)).trans gt', H2.u (by omega)⟩
            rw [e331]
            simp (disch := omega) only [S.f, S.nc (show 4 * t < 120 by omega), S.nc (show 4 * t + 1 < 120 by omega), S.nc (show 4 * t + 2 < 120 by omega), hk, ht, g0, hf1, g9, show ¬(w = 2) by omega, show ¬(w = 3) by omega, q2, hrs, hf2, r1, z, cond_true, cond_false, bI_ok, bI_er, bV_ok, bV_er, bR_ok, bR_er, bD_ok, bD_er, bF_ok, bF_er, thr_ap, cl_nI, lt_nI, le_nI, eq_nI, m1_lt, nI_m1, m1_nI, nI_lt_m1, add_nI, sub_nI, addm_nI, z_addm, z_subm, mul_nI, fit1_0, fit1_1, fit2_n, HI_wI, HK_wI, HL_wI, HR_wI, ckK_wI, chI_wI, sI_wI, wI_wI, lz0, lz1, lz2, lz3, lz4, lz5, lz6, lz7, lz8, lz9, lz10, lz12, lz13, lz16, lz17, lz20, lz21, lz23, lz26, lz30, lz32, lz35, lz40, lz45, lz48, lz57, lz58, lz59, lz60, lz61, lz63, lz64, lz97, lz99, lz100, lz110, lz111, lz126, lz129, lz132, lz133, lz166, lz169, lz255, lz999, lz1183, lz1800, Nat.reduceAdd, Nat.reduceLT, Nat.reduceEqDiff, Nat.not_lt_zero, Nat.lt_irrefl, ↓reduceIte, Nat.zero_add, Nat.add_zero, ne_eq, not_true_eq_false, not_false_eq_true, reduceCtorEq]
end RM3
