/-! THE CLASS: layers laid out -/
/-- layers as laid out: no last one only where the left rows that have a layer reach no free row -/
def LO (E : EF) (m : MF) (ly : MF) (ll : Option Nat) : Prop := LB E m ly ll ∧ (∀ i d, ly i = some d → d < 30) ∧ (ll = none → ∀ l r, (ly l).isSome = true → E l r = true → ∃ i, m r = some i ∧ (ly i).isSome = true)
section MG
variable {h : Hp}
theorem layLoop_ok (S : MgS h) {E : EF} {n : Nat} {m : MF} {f0 : Nat → Nat → Int32} (L : LR E n) (n30 : n ≤ 30) (h7 : f0 227 7 = nI n) (hr : ∀ i j, i < n → j < 32 → bt (f0 228 i) j = E i j) (hM : Ms f0 n m) (hm : MT E m) : ∀ (k p : Nat), p + k = n → ∀ f q T ly ll v, LQ E n m f0 f p q T ly ll → p ≤ T → ∃ f' ly' ll', RF 118 67 [.ref 227, .int (nI T), .int (nI p), v] [] (wI h f) = some (.ok (.int (nI (b2n (ll' : Option Nat).isSome))), wI h f') ∧ LO E m ly' ll' ∧ (∀ i, i < n → f' 232 i = oI (ly' i)) ∧ f' 227 8 = oI ll' ∧ ∀ a x, ¬(a = 227 ∧ x = 8) → a ≠ 231 → a ≠ 232 → f' a x = f0 a x := by
  have hbd : ∀ {f p q T ly ll}, LQ E n m f0 f p q T ly ll → ∀ i d, ly i = some d → d < 30 := fun H i d hd => by
    have := H.2.1.2.2.2 i d hd
    have := H.le
    omega
  have hll : ∀ {f p q T ly ll}, LQ E n m f0 f p q T ly ll → ∀ d, ll = some d → d < 30 := fun H d hd => by
    obtain ⟨l, r, h1, _⟩ := H.2.2.1.2.2 d hd
    exact hbd H l d h1
  have hend : ∀ p f q T ly ll v, LQ E n m f0 f p q T ly ll → p = T → ∃ f' ly' ll', RF 118 67 [.ref 227, .int (nI T), .int (nI p), v] [] (wI h f) = some (.ok (.int (nI (b2n (ll' : Option Nat).isSome))), wI h f') ∧ LO E m ly' ll' ∧ (∀ i, i < n → f' 232 i = oI (ly' i)) ∧ f' 227 8 = oI ll' ∧ ∀ a x, ¬(a = 227 ∧ x = 8) → a ≠ 231 → a ≠ 232 → f' a x = f0 a x := by
    intro p f q T ly ll v H hp
    have hT := H.le
    have hb := hbd H
    have hl := hll H
    subst hp
    obtain ⟨⟨a1, a2, a3⟩, ⟨b1, b2, b3, b4⟩, c, c4, c5⟩ := H
    refine ⟨f, ly, ll, ?_, ⟨c, hb, fun hn l r hl' he => ?_⟩, a2, a3, c5⟩
    · rw [e118_67]
      cases ll with
      | none =>
        have a3 : f 227 8 = -nI 1 := a3
        simp (disch := omega) only [S.f, a3, m1_lt0, Option.isSome, b2f, cond_true, cond_false, bI_ok, bI_er, bV_ok, bV_er, bR_ok, bR_er, bD_ok, bD_er, bF_ok, bF_er, thr_ap, cl_nI, lt_nI, le_nI, eq_nI, m1_lt, nI_m1, m1_nI, nI_lt_m1, add_nI, sub_nI, addm_nI, z_addm, z_subm, mul_nI, fit1_0, fit1_1, fit2_n, HI_wI, HK_wI, HL_wI, HR_wI, ckK_wI, chI_wI, sI_wI, wI_wI, lz0, lz1, lz2, lz3, lz4, lz5, lz6, lz7, lz8, lz9, lz10, lz12, lz13, lz16, lz17, lz20, lz21, lz23, lz26, lz30, lz32, lz35, lz40, lz45, lz48, lz57, lz58, lz59, lz60, lz61, lz63, lz64, lz97, lz99, lz100, lz110, lz111, lz126, lz129, lz132, lz133, lz166, lz169, lz255, lz999, lz1183, lz1800, Nat.reduceAdd, Nat.reduceLT, Nat.reduceEqDiff, Nat.not_lt_zero, Nat.lt_irrefl, ↓reduceIte, Nat.zero_add, Nat.add_zero, ne_eq, not_true_eq_false, not_false_eq_true, reduceCtorEq]
      | some d =>
        have := hl d rfl
        have a3 : f 227 8 = nI d := a3
        simp (disch := omega) only [S.f, a3, neg_nI, Option.isSome, b2t, cond_true, cond_false, bI_ok, bI_er, bV_ok, bV_er, bR_ok, bR_er, bD_ok, bD_er, bF_ok, bF_er, thr_ap, cl_nI, lt_nI, le_nI, eq_nI, m1_lt, nI_m1, m1_nI, nI_lt_m1, add_nI, sub_nI, addm_nI, z_addm, z_subm, mul_nI, fit1_0, fit1_1, fit2_n, HI_wI, HK_wI, HL_wI, HR_wI, ckK_wI, chI_wI, sI_wI, wI_wI, lz0, lz1, lz2, lz3, lz4, lz5, lz6, lz7, lz8, lz9, lz10, lz12, lz13, lz16, lz17, lz20, lz21, lz23, lz26, lz30, lz32, lz35, lz40, lz45, lz48, lz57, lz58, lz59, lz60, lz61, lz63, lz64, lz97, lz99, lz100, lz110, lz111, lz126, lz129, lz132, lz133, lz166, lz169, lz255, lz999, lz1183, lz1800, Nat.reduceAdd, Nat.reduceLT, Nat.reduceEqDiff, Nat.not_lt_zero, Nat.lt_irrefl, ↓reduceIte, Nat.zero_add, Nat.add_zero, ne_eq, not_true_eq_false, not_false_eq_true, reduceCtorEq]
    · obtain ⟨x, x1, x2⟩ := b3 l hl'
      rcases c4 x x1 r (by rw [x2]; exact he) with z | z
      · rw [hn] at z
        cases z.2
      · exact z
  intro k
  induction k with
  | zero =>
    intro p hk f q T ly ll v H hp
    have := H.le
    exact hend p f q T ly ll v H (by omega)
  | succ k ih =>
    intro p hk f q T ly ll v H hp
    by_cases hpT : p = T
    · exact hend p f q T ly ll v H hpT
    · have hlt : p < T := by omega
      have hTn := H.le
      have hq : f 231 p = nI (q p) := H.1.1 p hlt
      have hqn := (H.2.1.1 p hlt).1
      obtain ⟨d, hd⟩ : ∃ d, ly (q p) = some d := by
        have := (H.2.1.1 p hlt).2
        cases hz : ly (q p) with
        | none =>
          rw [hz] at this
          cases this
        | some d => exact ⟨d, rfl⟩
      have hd30 := hbd H _ _ hd
      have hlay : f 232 (q p) = nI d := by rw [H.1.2.1 _ hqn, hd]; rfl
      have a3 := H.1.2.2
      obtain ⟨f1, q1, T1, ly1, ll1, k1, k2, k3⟩ := layNext_ok S L n30 h7 hr hM hm H hlt
      obtain ⟨f', ly', ll', y1, y2⟩ := ih (p + 1) (by omega) f1 q1 T1 ly1 ll1 (.int (nI (q p))) k2 (by omega)
      have hT1 := k2.le
      have hgo : CL 117 [.ref 227, .int (nI (q p)), .int (nI T)] (wI h f) = some (.ok (.int (nI T1)), wI h f1) := k1
      have huse : RF 118 67 [.ref 227, .int (nI T), .int (nI p), v] [] (wI h f) = RF 118 67 [.ref 227, .int (nI T1), .int (nI (p + 1)), .int (nI (q p))] [] (wI h f1) → ∃ f' ly' ll', RF 118 67 [.ref 227, .int (nI T), .int (nI p), v] [] (wI h f) = some (.ok (.int (nI (b2n (ll' : Option Nat).isSome))), wI h f') ∧ LO E m ly' ll' ∧ (∀ i, i < n → f' 232 i = oI (ly' i)) ∧ f' 227 8 = oI ll' ∧ ∀ a x, ¬(a = 227 ∧ x = 8) → a ≠ 231 → a ≠ 232 → f' a x = f0 a x := fun e => ⟨f', ly', ll', e.trans y1, y2⟩
      cases hll' : ll with
      | none =>
        rw [hll'] at a3
        have a3 : f 227 8 = -nI 1 := a3
        refine huse ?_
        rw [e118_67]
        simp (disch := omega) only [S.f, S.c (show p < 30 by omega), hlt, show p < 30 by omega, hq, a3, m1_lt0, hgo, cond_true, cond_false, bI_ok, bI_er, bV_ok, bV_er, bR_ok, bR_er, bD_ok, bD_er, bF_ok, bF_er, thr_ap, cl_nI, lt_nI, le_nI, eq_nI, m1_lt, nI_m1, m1_nI, nI_lt_m1, add_nI, sub_nI, addm_nI, z_addm, z_subm, mul_nI, fit1_0, fit1_1, fit2_n, HI_wI, HK_wI, HL_wI, HR_wI, ckK_wI, chI_wI, sI_wI, wI_wI, lz0, lz1, lz2, lz3, lz4, lz5, lz6, lz7, lz8, lz9, lz10, lz12, lz13, lz16, lz17, lz20, lz21, lz23, lz26, lz30, lz32, lz35, lz40, lz45, lz48, lz57, lz58, lz59, lz60, lz61, lz63, lz64, lz97, lz99, lz100, lz110, lz111, lz126, lz129, lz132, lz133, lz166, lz169, lz255, lz999, lz1183, lz1800, Nat.reduceAdd, Nat.reduceLT, Nat.reduceEqDiff, Nat.not_lt_zero, Nat.lt_irrefl, ↓reduceIte, Nat.zero_add, Nat.add_zero, ne_eq, not_true_eq_false, not_false_eq_true, reduceCtorEq]
      | some dl =>
        rw [hll'] at a3
        have a3 : f 227 8 = nI dl := a3
        have hdl := hll H dl hll'
        by_cases qd : dl < d
        · refine ⟨f, ly, ll, ?_, ⟨H.2.2.1, hbd H, fun hn => by rw [hll'] at hn; cases hn⟩, H.1.2.1, H.1.2.2, H.2.2.2.2⟩
          rw [hll', e118_67]
          simp (disch := omega) only [S.f, S.c (show p < 30 by omega), S.c (show q p < 30 by omega), hlt, show p < 30 by omega, hq, a3, neg_nI, hlay, qd, Option.isSome, b2t, cond_true, cond_false, bI_ok, bI_er, bV_ok, bV_er, bR_ok, bR_er, bD_ok, bD_er, bF_ok, bF_er, thr_ap, cl_nI, lt_nI, le_nI, eq_nI, m1_lt, nI_m1, m1_nI, nI_lt_m1, add_nI, sub_nI, addm_nI, z_addm, z_subm, mul_nI, fit1_0, fit1_1, fit2_n, HI_wI, HK_wI, HL_wI, HR_wI, ckK_wI, chI_wI, sI_wI, wI_wI, lz0, lz1, lz2, lz3, lz4, lz5, lz6, lz7, lz8, lz9, lz10, lz12, lz13, lz16, lz17, lz20, lz21, lz23, lz26, lz30, lz32, lz35, lz40, lz45, lz48, lz57, lz58, lz59, lz60, lz61, lz63, lz64, lz97, lz99, lz100, lz110, lz111, lz126, lz129, lz132, lz133, lz166, lz169, lz255, lz999, lz1183, lz1800, Nat.reduceAdd, Nat.reduceLT, Nat.reduceEqDiff, Nat.not_lt_zero, Nat.lt_irrefl, ↓reduceIte, Nat.zero_add, Nat.add_zero, ne_eq, not_true_eq_false, not_false_eq_true, reduceCtorEq]
        · refine huse ?_
          rw [e118_67]
          simp (disch := omega) only [S.f, S.c (show p < 30 by omega), S.c (show q p < 30 by omega), hlt, show p < 30 by omega, hq, a3, neg_nI, hlay, qd, hgo, cond_true, cond_false, bI_ok, bI_er, bV_ok, bV_er, bR_ok, bR_er, bD_ok, bD_er, bF_ok, bF_er, thr_ap, cl_nI, lt_nI, le_nI, eq_nI, m1_lt, nI_m1, m1_nI, nI_lt_m1, add_nI, sub_nI, addm_nI, z_addm, z_subm, mul_nI, fit1_0, fit1_1, fit2_n, HI_wI, HK_wI, HL_wI, HR_wI, ckK_wI, chI_wI, sI_wI, wI_wI, lz0, lz1, lz2, lz3, lz4, lz5, lz6, lz7, lz8, lz9, lz10, lz12, lz13, lz16, lz17, lz20, lz21, lz23, lz26, lz30, lz32, lz35, lz40, lz45, lz48, lz57, lz58, lz59, lz60, lz61, lz63, lz64, lz97, lz99, lz100, lz110, lz111, lz126, lz129, lz132, lz133, lz166, lz169, lz255, lz999, lz1183, lz1800, Nat.reduceAdd, Nat.reduceLT, Nat.reduceEqDiff, Nat.not_lt_zero, Nat.lt_irrefl, ↓reduceIte, Nat.zero_add, Nat.add_zero, ne_eq, not_true_eq_false, not_false_eq_true, reduceCtorEq]
theorem layOut_ok (S : MgS h) {E : EF} {n : Nat} {m : MF} {f0 : Nat → Nat → Int32} (L : LR E n) (n30 : n ≤ 30) (h7 : f0 227 7 = nI n) (hr : ∀ i j, i < n → j < 32 → bt (f0 228 i) j = E i j) (hM : Ms f0 n m) (hm : MT E m) : ∃ f' ly' ll', CL 118 [.ref 227] (wI h f0) = some (.ok (.int (nI (b2n (ll' : Option Nat).isSome))), wI h f') ∧ LO E m ly' ll' ∧ (∀ i, i < n → f' 232 i = oI (ly' i)) ∧ f' 227 8 = oI ll' ∧ ∀ a x, ¬(a = 227 ∧ x = 8) → a ≠ 231 → a ≠ 232 → f' a x = f0 a x := by
  obtain ⟨⟨f, q, T⟩, e1, h1, h2, h3, h4, h5⟩ := lpEx (β := (Nat → Nat → Int32) × (Nat → Nat) × Nat) (n := n) (x0 := (f0, fun _ => 0, 0)) (F := fun i x => RF 118 4 [.ref 227, .int (nI x.2.2), .int (nI i), .null] [] (wI h x.1)) (P := fun i x => (∀ y, y < x.2.2 → x.1 231 y = nI (x.2.1 y) ∧ x.2.1 y < i ∧ (∃ j, E (x.2.1 y) j = true) ∧ m (x.2.1 y) = none) ∧ (∀ y z, y < z → z < x.2.2 → x.2.1 y < x.2.1 z) ∧ (∀ l, l < i → (∃ j, E l j = true) → m l = none → ∃ y, y < x.2.2 ∧ x.2.1 y = l) ∧ (∀ l, l < i → x.1 232 l = oI (@ite (Option Nat) (∃ y, y < x.2.2 ∧ x.2.1 y = l) (Classical.propDecidable _) (some 0) none)) ∧ ∀ a y, a ≠ 231 → a ≠ 232 → x.1 a y = f0 a y) ⟨fun y hy => absurd hy (Nat.not_lt_zero y), fun y z hy hz => absurd hz (Nat.not_lt_zero z), fun l hl => absurd hl (Nat.not_lt_zero l), fun l hl => absurd hl (Nat.not_lt_zero l), fun _ _ _ _ => rfl⟩ (fun i x hi hP => by
    obtain ⟨f, q, T⟩ := x
    obtain ⟨h1, h2, h3, h4, h5⟩ := hP
    dsimp only at h1 h2 h3 h4 h5 ⊢
    have g7 : f 227 7 = nI n := (h5 227 7 (by decide) (by decide)).trans h7
    have g8 : f 228 i = f0 228 i := h5 228 i (by decide) (by decide)
    have gm : f 229 i = oI (m i) := (h5 229 i (by decide) (by decide)).trans (hM i hi)
    have hTi : T ≤ i := inj_le q (fun x hx => (h1 x hx).2.1) (fun x y hx hy he => by
      rcases Nat.lt_trichotomy x y with z | z | z
      · have := h2 x y z hy
        omega
      · exact z
      · have := h2 y x z hx
        omega)
    have nq : ¬∃ y, y < T ∧ q y = i := fun ⟨y, y1, y2⟩ => by
      have := (h1 y y1).2.1
      omega
    by_cases hed : ∃ j, E i j = true
    · obtain ⟨j, hj⟩ := hed
      have hjn := (L.1 _ _ hj).2
      have hnz : ¬(f0 228 i = nI 0) := bt_nz _ (by rw [hr i j hi (by omega)]; exact hj)
      cases hmi : m i with
      | none =>
        rw [hmi] at gm
        have gm : f 229 i = -nI 1 := gm
        refine ⟨(u2 (u2 (u2 f 232 i (-nI 1)) 232 i (nI 0)) 231 T (nI i), ud q T i, T + 1), ?_, fun y hy => ?_, fun y z hy hz => ?_, fun l hl he hml => ?_, fun l hl => ?_, fun a y q1 q2 => ?_⟩
        all_goals try dsimp only
        · rw [e118_4]
          simp (disch := omega) only [S.f, S.c (show i < 30 by omega), S.c (show T < 30 by omega), g7, hi, w2_ne, g8, hnz, gm, m1_lt0, cond_true, cond_false, bI_ok, bI_er, bV_ok, bV_er, bR_ok, bR_er, bD_ok, bD_er, bF_ok, bF_er, thr_ap, cl_nI, lt_nI, le_nI, eq_nI, m1_lt, nI_m1, m1_nI, nI_lt_m1, add_nI, sub_nI, addm_nI, z_addm, z_subm, mul_nI, fit1_0, fit1_1, fit2_n, HI_wI, HK_wI, HL_wI, HR_wI, ckK_wI, chI_wI, sI_wI, wI_wI, lz0, lz1, lz2, lz3, lz4, lz5, lz6, lz7, lz8, lz9, lz10, lz12, lz13, lz16, lz17, lz20, lz21, lz23, lz26, lz30, lz32, lz35, lz40, lz45, lz48, lz57, lz58, lz59, lz60, lz61, lz63, lz64, lz97, lz99, lz100, lz110, lz111, lz126, lz129, lz132, lz133, lz166, lz169, lz255, lz999, lz1183, lz1800, Nat.reduceAdd, Nat.reduceLT, Nat.reduceEqDiff, Nat.not_lt_zero, Nat.lt_irrefl, ↓reduceIte, Nat.zero_add, Nat.add_zero, ne_eq, not_true_eq_false, not_false_eq_true, reduceCtorEq]
        · dsimp only at hy
          by_cases z : y = T
          · rw [z, w2_eq, ud_e]
            exact ⟨rfl, by omega, ⟨j, hj⟩, hmi⟩
          · obtain ⟨y1, y2, y3, y4⟩ := h1 y (by omega)
            rw [w2_ne (by omega), w2_ne (by omega), w2_ne (by omega), ud_n z]
            exact ⟨y1, by omega, y3, y4⟩
        · dsimp only at hz
          by_cases z' : z = T
          · rw [z', ud_e, ud_n (by omega)]
            have := (h1 y (by omega)).2.1
            omega
          · rw [ud_n z', ud_n (by omega)]
            exact h2 y z hy (by omega)
        · by_cases z : l = i
          · exact ⟨T, by omega, by rw [ud_e, z]⟩
          · obtain ⟨y, y1, y2⟩ := h3 l (by omega) he hml
            exact ⟨y, by omega, by rw [ud_n (by omega)]; exact y2⟩
        · by_cases z : l = i
          · have hx : ∃ y, y < T + 1 ∧ ud q T i y = l := ⟨T, by omega, by rw [ud_e, z]⟩
            rw [if_pos hx, z, w2_ne (by omega), w2_eq]
            rfl
          · rw [w2_ne (by omega), w2_ne (by omega), w2_ne (by omega), h4 l (by omega)]
            by_cases hx : ∃ y, y < T ∧ q y = l
            · obtain ⟨y, y1, y2⟩ := hx
              have hx' : ∃ y, y < T + 1 ∧ ud q T i y = l := ⟨y, by omega, by rw [ud_n (by omega)]; exact y2⟩
              rw [if_pos ⟨y, y1, y2⟩, if_pos hx']
            · have hx' : ¬∃ y, y < T + 1 ∧ ud q T i y = l := fun ⟨y, y1, y2⟩ => by
                by_cases zz : y = T
                · rw [zz, ud_e] at y2
                  exact z y2.symm
                · rw [ud_n zz] at y2
                  exact hx ⟨y, by omega, y2⟩
              rw [if_neg hx, if_neg hx']
        · rw [w2_ne (by omega), w2_ne (by omega), w2_ne (by omega)]
          exact h5 a y q1 q2
      | some k =>
        rw [hmi] at gm
        have gm : f 229 i = nI k := gm
        have hk : k < n := by
          rcases (hm i k hmi).2 with z | z
          · exact (L.1 _ _ z).2
          · exact (L.1 _ _ z).1
        refine ⟨(u2 f 232 i (-nI 1), q, T), ?_, fun y hy => ?_, h2, fun l hl he hml => ?_, fun l hl => ?_, fun a y q1 q2 => ?_⟩
        all_goals try dsimp only
        · rw [e118_4]
          simp (disch := omega) only [S.f, S.c (show i < 30 by omega), g7, hi, w2_ne, g8, hnz, gm, neg_nI, cond_true, cond_false, bI_ok, bI_er, bV_ok, bV_er, bR_ok, bR_er, bD_ok, bD_er, bF_ok, bF_er, thr_ap, cl_nI, lt_nI, le_nI, eq_nI, m1_lt, nI_m1, m1_nI, nI_lt_m1, add_nI, sub_nI, addm_nI, z_addm, z_subm, mul_nI, fit1_0, fit1_1, fit2_n, HI_wI, HK_wI, HL_wI, HR_wI, ckK_wI, chI_wI, sI_wI, wI_wI, lz0, lz1, lz2, lz3, lz4, lz5, lz6, lz7, lz8, lz9, lz10, lz12, lz13, lz16, lz17, lz20, lz21, lz23, lz26, lz30, lz32, lz35, lz40, lz45, lz48, lz57, lz58, lz59, lz60, lz61, lz63, lz64, lz97, lz99, lz100, lz110, lz111, lz126, lz129, lz132, lz133, lz166, lz169, lz255, lz999, lz1183, lz1800, Nat.reduceAdd, Nat.reduceLT, Nat.reduceEqDiff, Nat.not_lt_zero, Nat.lt_irrefl, ↓reduceIte, Nat.zero_add, Nat.add_zero, ne_eq, not_true_eq_false, not_false_eq_true, reduceCtorEq]
        · obtain ⟨y1, y2, y3, y4⟩ := h1 y hy
          rw [w2_ne (by omega)]
          exact ⟨y1, by omega, y3, y4⟩
        · by_cases z : l = i
          · rw [z, hmi] at hml
            cases hml
          · exact h3 l (by omega) he hml
        · by_cases z : l = i
          · rw [z, w2_eq, if_neg nq]
            rfl
          · rw [w2_ne (by omega)]
            exact h4 l (by omega)
        · rw [w2_ne (by omega)]
          exact h5 a y q1 q2
    · have hz : f0 228 i = nI 0 := bt_zero _ (fun j hj => by
        rw [hr i j hi hj]
        cases hq : E i j with
        | false => rfl
        | true => exact absurd ⟨j, hq⟩ hed)
      refine ⟨(u2 f 232 i (-nI 1), q, T), ?_, fun y hy => ?_, h2, fun l hl he hml => ?_, fun l hl => ?_, fun a y q1 q2 => ?_⟩
      all_goals try dsimp only
      · rw [e118_4]
        simp (disch := omega) only [S.f, S.c (show i < 30 by omega), g7, hi, w2_ne, g8, hz, cond_true, cond_false, bI_ok, bI_er, bV_ok, bV_er, bR_ok, bR_er, bD_ok, bD_er, bF_ok, bF_er, thr_ap, cl_nI, lt_nI, le_nI, eq_nI, m1_lt, nI_m1, m1_nI, nI_lt_m1, add_nI, sub_nI, addm_nI, z_addm, z_subm, mul_nI, fit1_0, fit1_1, fit2_n, HI_wI, HK_wI, HL_wI, HR_wI, ckK_wI, chI_wI, sI_wI, wI_wI, lz0, lz1, lz2, lz3, lz4, lz5, lz6, lz7, lz8, lz9, lz10, lz12, lz13, lz16, lz17, lz20, lz21, lz23, lz26, lz30, lz32, lz35, lz40, lz45, lz48, lz57, lz58, lz59, lz60, lz61, lz63, lz64, lz97, lz99, lz100, lz110, lz111, lz126, lz129, lz132, lz133, lz166, lz169, lz255, lz999, lz1183, lz1800, Nat.reduceAdd, Nat.reduceLT, Nat.reduceEqDiff, Nat.not_lt_zero, Nat.lt_irrefl, ↓reduceIte, Nat.zero_add, Nat.add_zero, ne_eq, not_true_eq_false, not_false_eq_true, reduceCtorEq]
      · obtain ⟨y1, y2, y3, y4⟩ := h1 y hy
        rw [w2_ne (by omega)]
        exact ⟨y1, by omega, y3, y4⟩
      · by_cases z : l = i
        · rw [z] at he
          exact absurd he hed
        · exact h3 l (by omega) he hml
      · by_cases z : l = i
        · rw [z, w2_eq, if_neg nq]
          rfl
        · rw [w2_ne (by omega)]
          exact h4 l (by omega)
      · rw [w2_ne (by omega)]
        exact h5 a y q1 q2)
  dsimp only at e1 h1 h2 h3 h4 h5
  have g7 : f 227 7 = nI n := (h5 227 7 (by decide) (by decide)).trans h7
  have hTn : T ≤ n := inj_le q (fun x hx => (h1 x hx).2.1) (fun x y hx hy he => by
    rcases Nat.lt_trichotomy x y with z | z | z
    · have := h2 x y z hy
      omega
    · exact z
    · have := h2 y x z hx
      omega)
  have e2 : CL 118 [.ref 227] (wI h f0) = RF 118 67 [.ref 227, .int (nI T), .int (nI 0), .null] [] (wI h (u2 f 227 8 (-nI 1))) := by
    rw [e118]
    refine e1.trans ?_
    rw [e118_4]
    simp (disch := omega) only [S.f, g7, cond_true, cond_false, bI_ok, bI_er, bV_ok, bV_er, bR_ok, bR_er, bD_ok, bD_er, bF_ok, bF_er, thr_ap, cl_nI, lt_nI, le_nI, eq_nI, m1_lt, nI_m1, m1_nI, nI_lt_m1, add_nI, sub_nI, addm_nI, z_addm, z_subm, mul_nI, fit1_0, fit1_1, fit2_n, HI_wI, HK_wI, HL_wI, HR_wI, ckK_wI, chI_wI, sI_wI, wI_wI, lz0, lz1, lz2, lz3, lz4, lz5, lz6, lz7, lz8, lz9, lz10, lz12, lz13, lz16, lz17, lz20, lz21, lz23, lz26, lz30, lz32, lz35, lz40, lz45, lz48, lz57, lz58, lz59, lz60, lz61, lz63, lz64, lz97, lz99, lz100, lz110, lz111, lz126, lz129, lz132, lz133, lz166, lz169, lz255, lz999, lz1183, lz1800, Nat.reduceAdd, Nat.reduceLT, Nat.reduceEqDiff, Nat.not_lt_zero, Nat.lt_irrefl, ↓reduceIte, Nat.zero_add, Nat.add_zero, ne_eq, not_true_eq_false, not_false_eq_true, reduceCtorEq]
  rw [e2]
  have hly : ∀ l, (@ite (Option Nat) (∃ y, y < T ∧ q y = l) (Classical.propDecidable _) (some 0) none) = some 0 ↔ ∃ y, y < T ∧ q y = l := fun l => by
    by_cases hx : ∃ y, y < T ∧ q y = l
    · rw [if_pos hx]
      exact ⟨fun _ => hx, fun _ => rfl⟩
    · rw [if_neg hx]
      exact ⟨fun z => (by cases z), fun z => absurd z hx⟩
  have hly2 : ∀ l d, (@ite (Option Nat) (∃ y, y < T ∧ q y = l) (Classical.propDecidable _) (some 0) none) = some d → d = 0 ∧ ∃ y, y < T ∧ q y = l := fun l d hd => by
    by_cases hx : ∃ y, y < T ∧ q y = l
    · rw [if_pos hx] at hd
      cases hd
      exact ⟨rfl, hx⟩
    · rw [if_neg hx] at hd
      cases hd
  refine layLoop_ok S L n30 h7 hr hM hm n 0 (by omega) (u2 f 227 8 (-nI 1)) q T (fun l => @ite (Option Nat) (∃ y, y < T ∧ q y = l) (Classical.propDecidable _) (some 0) none) none .null ⟨⟨fun x hx => ?_, fun i hi => ?_, w2_eq _ _ _ _⟩, ⟨fun x hx => ⟨(h1 x hx).2.1, ?_⟩, fun x y hx hy he => ?_, fun i hi => ?_, fun i d hd => ?_⟩, ⟨⟨fun i hi => ?_, fun i j he hmi => ?_⟩, fun i d hd => ?_, fun d hd => by cases hd⟩, fun x hx => absurd hx (Nat.not_lt_zero x), fun a x q1 q2 q3 => (w2_ne q1).trans (h5 a x q2 q3)⟩ (Nat.zero_le T)
  · rw [w2_ne (by omega)]
    exact (h1 x hx).1
  · rw [w2_ne (by omega)]
    exact h4 i hi
  · dsimp only
    rw [(hly (q x)).mpr ⟨x, hx, rfl⟩]
    rfl
  · rcases Nat.lt_trichotomy x y with z | z | z
    · have := h2 x y z hy
      omega
    · exact z
    · have := h2 y x z hx
      omega
  · by_cases hx : ∃ y, y < T ∧ q y = i
    · exact hx
    · dsimp only at hi
      rw [if_neg hx] at hi
      cases hi
  · obtain ⟨rfl, y, y1, _⟩ := hly2 i d hd
    omega
  · obtain ⟨_, y, y1, y2⟩ := hly2 i 0 hi
    have := h1 y y1
    rw [y2] at this
    exact ⟨this.2.2.2, this.2.2.1⟩
  · exact (hly i).mpr (h3 i (L.1 _ _ he).1 ⟨j, he⟩ hmi)
  · have := (hly2 i (d + 1) hd).1
    omega
end MG
