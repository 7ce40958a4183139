/-! THE CLASS: groups counted -/
theorem bt_one {r : Nat} (hr : r < 32) (i : Nat) : bt ((1 : Int32) <<< (nI r &&& 31)) i = decide (i = r) := by
  unfold bt
  have h : ((1 : Int32) <<< (nI r &&& 31)).toUInt32.toNat = 2 ^ r := one_dec r hr
  rw [h, Nat.testBit_two_pow, decide_eq_decide]
  exact ⟨fun z => z.symm, fun z => z.symm⟩
theorem bt_or (x y : Int32) (i : Nat) : bt (x ||| y) i = (bt x i || bt y i) := by
  unfold bt
  rw [Int32.toUInt32_or, UInt32.toNat_or, Nat.testBit_or]
section GR
variable {h : Hp}
theorem unite_ok (S : GrS h) {p rep : Nat → Nat} {n : Nat} {f : Nat → Nat → Int32} (n30 : n ≤ 30) (h7 : f 235 3 = nI n) (hp : ∀ i, i < n → f 237 i = nI (p i)) (F : FO p n rep) {a b : Nat} (ha : a < n) (hb : b < n) : ∃ p' f', CL 103 [.ref 235, .int (nI a), .int (nI b)] (wI h f) = some (.ok (.int (nI (b2n (decide (rep a ≠ rep b))))), wI h f') ∧ (∀ i, i < n → f' 237 i = nI (p' i)) ∧ FO p' n (fun i => if rep i = rep a then rep b else rep i) ∧ ∀ x y, x ≠ 237 → f' x y = f x y := by
  have r1 := rootOf_ok S n30 h7 hp F ha
  have r2 := rootOf_ok S n30 h7 hp F hb
  have f1 := (F a ha).2.1
  have f2 := (F b hb).2.1
  by_cases q : rep a = rep b
  · have ra := F.rr ha
    refine ⟨p, u2 f 237 (rep a) (nI (rep b)), ?_, fun i hi => ?_, fun i hi => ?_, fun x y hx => w2_ne (by omega)⟩
    · rw [decide_eq_false (fun z => z q), b2f, e103]
      simp (disch := omega) only [S.f, S.c (show rep a < 30 by omega), S.c (show rep b < 30 by omega), r1, r2, q, cond_true, cond_false, bI_ok, bI_er, bV_ok, bV_er, bR_ok, bR_er, bD_ok, bD_er, bF_ok, bF_er, thr_ap, cl_nI, lt_nI, le_nI, eq_nI, m1_lt, nI_m1, m1_nI, nI_lt_m1, add_nI, sub_nI, addm_nI, z_addm, z_subm, mul_nI, fit1_0, fit1_1, fit2_n, HI_wI, HK_wI, HL_wI, HR_wI, ckK_wI, chI_wI, sI_wI, wI_wI, lz0, lz1, lz2, lz3, lz4, lz5, lz6, lz7, lz8, lz9, lz10, lz12, lz13, lz16, lz17, lz20, lz21, lz23, lz26, lz30, lz32, lz35, lz40, lz45, lz48, lz57, lz58, lz59, lz60, lz61, lz63, lz64, lz97, lz99, lz100, lz110, lz111, lz126, lz129, lz132, lz133, lz166, lz169, lz255, lz999, lz1183, lz1800, Nat.reduceAdd, Nat.reduceLT, Nat.reduceEqDiff, Nat.not_lt_zero, Nat.lt_irrefl, ↓reduceIte, Nat.zero_add, Nat.add_zero, ne_eq, not_true_eq_false, not_false_eq_true, reduceCtorEq]
    · by_cases z : i = rep a
      · rw [z, w2_eq, ra.2, q]
      · rw [w2_ne (by omega)]
        exact hp i hi
    · obtain ⟨y1, y2, y3⟩ := F i hi
      have e : (if rep i = rep a then rep b else rep i) = rep i := by
        split
        · rename_i z
          rw [z, q]
        · rfl
      refine ⟨y1, ?_, ?_⟩
      · dsimp only
        rw [e]
        exact y2
      · dsimp only
        rw [e]
        exact y3
  · refine ⟨ud p (rep a) (rep b), u2 f 237 (rep a) (nI (rep b)), ?_, fun i hi => ?_, F.join ha hb q, fun x y hx => w2_ne (by omega)⟩
    · rw [decide_eq_true q, b2t, e103]
      simp (disch := omega) only [S.f, S.c (show rep a < 30 by omega), r1, r2, q, cond_true, cond_false, bI_ok, bI_er, bV_ok, bV_er, bR_ok, bR_er, bD_ok, bD_er, bF_ok, bF_er, thr_ap, cl_nI, lt_nI, le_nI, eq_nI, m1_lt, nI_m1, m1_nI, nI_lt_m1, add_nI, sub_nI, addm_nI, z_addm, z_subm, mul_nI, fit1_0, fit1_1, fit2_n, HI_wI, HK_wI, HL_wI, HR_wI, ckK_wI, chI_wI, sI_wI, wI_wI, lz0, lz1, lz2, lz3, lz4, lz5, lz6, lz7, lz8, lz9, lz10, lz12, lz13, lz16, lz17, lz20, lz21, lz23, lz26, lz30, lz32, lz35, lz40, lz45, lz48, lz57, lz58, lz59, lz60, lz61, lz63, lz64, lz97, lz99, lz100, lz110, lz111, lz126, lz129, lz132, lz133, lz166, lz169, lz255, lz999, lz1183, lz1800, Nat.reduceAdd, Nat.reduceLT, Nat.reduceEqDiff, Nat.not_lt_zero, Nat.lt_irrefl, ↓reduceIte, Nat.zero_add, Nat.add_zero, ne_eq, not_true_eq_false, not_false_eq_true, reduceCtorEq]
    · by_cases z : i = rep a
      · rw [z, w2_eq, ud_e]
      · rw [w2_ne (by omega), ud_n z]
        exact hp i hi
theorem uniting_ok (S : GrS h) {E : EF} {n : Nat} {f : Nat → Nat → Int32} (Y : Sy E) (hE : ∀ i j, E i j = true → i < n ∧ j < n ∧ i ≠ j) (n30 : n ≤ 30) (G : GL f n E) : ∃ z f', CL 104 [.ref 235] (wI h f) = some (.ok (.int (nI z)), wI h f') ∧ NC E n z ∧ z ≤ n ∧ ∀ x y, x ≠ 237 → f' x y = f x y := by
  obtain ⟨h7, hb⟩ := G
  obtain ⟨g0, e1, h1, h2⟩ := lpEx (β := Nat → Nat → Int32) (n := n) (x0 := f) (F := fun i x => RF 104 7 [.ref 235, .int (nI n), .int (nI i), .null] [] (wI h x)) (P := fun i x => (∀ k, k < i → x 237 k = nI k) ∧ ∀ a y, a ≠ 237 → x a y = f a y) ⟨fun k hk => absurd hk (Nat.not_lt_zero k), fun _ _ _ => rfl⟩ (fun i x hi hP => by
    obtain ⟨p1, p2⟩ := hP
    have x7 : x 235 3 = nI n := (p2 235 3 (by decide)).trans h7
    refine ⟨u2 x 237 i (nI i), ?_, fun k hk => ?_, fun a y ha => (w2_ne (by omega)).trans (p2 a y ha)⟩
    · rw [e104_7]
      simp (disch := omega) only [S.f, S.c (show i < 30 by omega), x7, hi, cond_true, cond_false, bI_ok, bI_er, bV_ok, bV_er, bR_ok, bR_er, bD_ok, bD_er, bF_ok, bF_er, thr_ap, cl_nI, lt_nI, le_nI, eq_nI, m1_lt, nI_m1, m1_nI, nI_lt_m1, add_nI, sub_nI, addm_nI, z_addm, z_subm, mul_nI, fit1_0, fit1_1, fit2_n, HI_wI, HK_wI, HL_wI, HR_wI, ckK_wI, chI_wI, sI_wI, wI_wI, lz0, lz1, lz2, lz3, lz4, lz5, lz6, lz7, lz8, lz9, lz10, lz12, lz13, lz16, lz17, lz20, lz21, lz23, lz26, lz30, lz32, lz35, lz40, lz45, lz48, lz57, lz58, lz59, lz60, lz61, lz63, lz64, lz97, lz99, lz100, lz110, lz111, lz126, lz129, lz132, lz133, lz166, lz169, lz255, lz999, lz1183, lz1800, Nat.reduceAdd, Nat.reduceLT, Nat.reduceEqDiff, Nat.not_lt_zero, Nat.lt_irrefl, ↓reduceIte, Nat.zero_add, Nat.add_zero, ne_eq, not_true_eq_false, not_false_eq_true, reduceCtorEq]
    · by_cases q : k = i
      · rw [q]
        exact w2_eq _ _ _ _
      · exact (w2_ne (by omega)).trans (p1 k (by omega)))
  have g7 : g0 235 3 = nI n := (h2 235 3 (by decide)).trans h7
  have hroots0 : sumN (fun i => b2n (decide ((fun i : Nat => i) i = i))) n = n := by
    rw [sumN_eq (g := fun _ => b2n true) (fun i _ => by rw [decide_eq_true rfl]), sumN_b]
  have e2 : CL 104 [.ref 235] (wI h f) = RF 104 30 [.ref 235, .int (nI (sumN (fun i => b2n (decide ((fun i : Nat => i) i = i))) n)), .int (nI 0), .null] [] (wI h g0) := by
    rw [hroots0, e104]
    simp (disch := omega) only [S.f, h7, cond_true, cond_false, bI_ok, bI_er, bV_ok, bV_er, bR_ok, bR_er, bD_ok, bD_er, bF_ok, bF_er, thr_ap, cl_nI, lt_nI, le_nI, eq_nI, m1_lt, nI_m1, m1_nI, nI_lt_m1, add_nI, sub_nI, addm_nI, z_addm, z_subm, mul_nI, fit1_0, fit1_1, fit2_n, HI_wI, HK_wI, HL_wI, HR_wI, ckK_wI, chI_wI, sI_wI, wI_wI, lz0, lz1, lz2, lz3, lz4, lz5, lz6, lz7, lz8, lz9, lz10, lz12, lz13, lz16, lz17, lz20, lz21, lz23, lz26, lz30, lz32, lz35, lz40, lz45, lz48, lz57, lz58, lz59, lz60, lz61, lz63, lz64, lz97, lz99, lz100, lz110, lz111, lz126, lz129, lz132, lz133, lz166, lz169, lz255, lz999, lz1183, lz1800, Nat.reduceAdd, Nat.reduceLT, Nat.reduceEqDiff, Nat.not_lt_zero, Nat.lt_irrefl, ↓reduceIte, Nat.zero_add, Nat.add_zero, ne_eq, not_true_eq_false, not_false_eq_true, reduceCtorEq]
    rw [e1, e104_7]
    simp (disch := omega) only [S.f, g7, cond_true, cond_false, bI_ok, bI_er, bV_ok, bV_er, bR_ok, bR_er, bD_ok, bD_er, bF_ok, bF_er, thr_ap, cl_nI, lt_nI, le_nI, eq_nI, m1_lt, nI_m1, m1_nI, nI_lt_m1, add_nI, sub_nI, addm_nI, z_addm, z_subm, mul_nI, fit1_0, fit1_1, fit2_n, HI_wI, HK_wI, HL_wI, HR_wI, ckK_wI, chI_wI, sI_wI, wI_wI, lz0, lz1, lz2, lz3, lz4, lz5, lz6, lz7, lz8, lz9, lz10, lz12, lz13, lz16, lz17, lz20, lz21, lz23, lz26, lz30, lz32, lz35, lz40, lz45, lz48, lz57, lz58, lz59, lz60, lz61, lz63, lz64, lz97, lz99, lz100, lz110, lz111, lz126, lz129, lz132, lz133, lz166, lz169, lz255, lz999, lz1183, lz1800, Nat.reduceAdd, Nat.reduceLT, Nat.reduceEqDiff, Nat.not_lt_zero, Nat.lt_irrefl, ↓reduceIte, Nat.zero_add, Nat.add_zero, ne_eq, not_true_eq_false, not_false_eq_true, reduceCtorEq]
  have step : ∀ (rep : Nat → Nat) (p : Nat → Nat) (a b : Nat), FO p n rep → a < n → b < n → rep a ≠ rep b → sumN (fun i => b2n (decide ((if rep i = rep a then rep b else rep i) = i))) n + 1 = sumN (fun i => b2n (decide (rep i = i))) n := fun rep p a b F ha hb hne => by
    have ra := F.rr ha
    have rb := F.rr hb
    have := sumN_bump (f := fun i => b2n (decide ((if rep i = rep a then rep b else rep i) = i))) (g := fun i => b2n (decide (rep i = i))) (i := rep a) (F a ha).2.1 (fun j hj hne' => by
      congr 1
      rw [decide_eq_decide]
      by_cases q : rep j = rep a
      · rw [if_pos q]
        constructor
        · intro z
          exfalso
          rw [← z, rb.1] at q
          exact hne q.symm
        · intro z
          rw [z] at q
          exact absurd q hne'
      · rw [if_neg q])
    rw [ra.1, if_pos rfl, decide_eq_true rfl, decide_eq_false (fun z => hne z.symm), b2t, b2f] at this
    omega
  have hroots : ∀ rep : Nat → Nat, sumN (fun i => b2n (decide (rep i = i))) n ≤ n := fun rep => by
    have := sumN_bd (f := fun i => b2n (decide (rep i = i))) (n := n) (b := 1) (fun k _ => b2n_le _)
    omega
  have cstep : ∀ (rep : Nat → Nat) (a b : Nat), (∀ i, i < n → Cn E i (rep i)) → a < n → b < n → E a b = true → ∀ i, i < n → Cn E i (if rep i = rep a then rep b else rep i) := fun rep a b hc ha hb hab i hi => by
    split
    · rename_i q
      have c1 := hc i hi
      have c2 := hc a ha
      rw [q] at c1
      exact ((c1.tr (c2.sy Y)).tr (Cn.st hab)).tr (hc b hb)
    · exact hc i hi
  obtain ⟨⟨g, p, rep, v⟩, e3, k1, k2, k3, k4, k5⟩ := lpEx (β := (Nat → Nat → Int32) × (Nat → Nat) × (Nat → Nat) × Value) (n := n) (x0 := (g0, (fun i => i), (fun i => i), Value.null)) (F := fun i x => RF 104 30 [.ref 235, .int (nI (sumN (fun i => b2n (decide (x.2.2.1 i = i))) n)), .int (nI i), x.2.2.2] [] (wI h x.1)) (P := fun i x => (∀ j, j < n → x.1 237 j = nI (x.2.1 j)) ∧ FO x.2.1 n x.2.2.1 ∧ (∀ j, j < n → Cn E j (x.2.2.1 j)) ∧ (∀ a b, a < i → b < a → E a b = true → x.2.2.1 a = x.2.2.1 b) ∧ ∀ a y, a ≠ 237 → x.1 a y = f a y) ⟨fun j hj => h1 j hj, fun j hj => ⟨hj, hj, 0, rfl, rfl⟩, fun j _ => Cn.rf j, fun a b ha => absurd ha (Nat.not_lt_zero a), h2⟩ (fun i x hi hP => by
    obtain ⟨g, p, rep, v⟩ := x
    obtain ⟨k1, k2, k3, k4, k5⟩ := hP
    dsimp only at k1 k2 k3 k4 k5 ⊢
    have g7 : g 235 3 = nI n := (k5 235 3 (by decide)).trans h7
    obtain ⟨⟨g', p', rep'⟩, f1, l1, l2, l3, l4, l5, l6⟩ := lpEx (β := (Nat → Nat → Int32) × (Nat → Nat) × (Nat → Nat)) (n := i) (x0 := (g, p, rep)) (F := fun c x => RF 104 40 [.ref 235, .int (nI (sumN (fun i => b2n (decide (x.2.2 i = i))) n)), .int (nI i), .int (nI c)] [] (wI h x.1)) (P := fun c x => (∀ j, j < n → x.1 237 j = nI (x.2.1 j)) ∧ FO x.2.1 n x.2.2 ∧ (∀ j, j < n → Cn E j (x.2.2 j)) ∧ (∀ a b, a < i → b < a → E a b = true → x.2.2 a = x.2.2 b) ∧ (∀ b, b < c → E i b = true → x.2.2 i = x.2.2 b) ∧ ∀ a y, a ≠ 237 → x.1 a y = f a y) ⟨k1, k2, k3, k4, fun b hb => absurd hb (Nat.not_lt_zero b), k5⟩ (fun c x hc hP => by
      obtain ⟨g, p, rep⟩ := x
      obtain ⟨k1, k2, k3, k4, k6, k5⟩ := hP
      dsimp only at k1 k2 k3 k4 k5 k6 ⊢
      have g7 : g 235 3 = nI n := (k5 235 3 (by decide)).trans h7
      have gb : bt (g 236 i) c = E i c := by rw [k5 236 i (by decide)]; exact hb i c hi (by omega)
      have hr := hroots rep
      cases hq : E i c with
      | false =>
        rw [hq] at gb
        refine ⟨(g, p, rep), ?_, k1, k2, k3, k4, fun b hb he => ?_, k5⟩
        · rw [e104_40]
          simp (disch := omega) only [S.f, S.c (show i < 30 by omega), hc, ↓bt_test, gb, cond_true, cond_false, bI_ok, bI_er, bV_ok, bV_er, bR_ok, bR_er, bD_ok, bD_er, bF_ok, bF_er, thr_ap, cl_nI, lt_nI, le_nI, eq_nI, m1_lt, nI_m1, m1_nI, nI_lt_m1, add_nI, sub_nI, addm_nI, z_addm, z_subm, mul_nI, fit1_0, fit1_1, fit2_n, HI_wI, HK_wI, HL_wI, HR_wI, ckK_wI, chI_wI, sI_wI, wI_wI, lz0, lz1, lz2, lz3, lz4, lz5, lz6, lz7, lz8, lz9, lz10, lz12, lz13, lz16, lz17, lz20, lz21, lz23, lz26, lz30, lz32, lz35, lz40, lz45, lz48, lz57, lz58, lz59, lz60, lz61, lz63, lz64, lz97, lz99, lz100, lz110, lz111, lz126, lz129, lz132, lz133, lz166, lz169, lz255, lz999, lz1183, lz1800, Nat.reduceAdd, Nat.reduceLT, Nat.reduceEqDiff, Nat.not_lt_zero, Nat.lt_irrefl, ↓reduceIte, Nat.zero_add, Nat.add_zero, ne_eq, not_true_eq_false, not_false_eq_true, reduceCtorEq]
        · by_cases z : b = c
          · rw [z, hq] at he
            cases he
          · exact k6 b (by omega) he
      | true =>
        rw [hq] at gb
        obtain ⟨p', f', u1', u2', u3', u4'⟩ := unite_ok S n30 g7 k1 k2 hi (show c < n by omega)
        refine ⟨(f', p', fun j => if rep j = rep i then rep c else rep j), ?_, u2', u3', cstep rep i c k3 hi (by omega) hq, fun a b ha hb' he => ?_, fun b hb' he => ?_, fun a y q => (u4' a y q).trans (k5 a y q)⟩
        · dsimp only
          rw [e104_40]
          by_cases q : rep i = rep c
          · rw [decide_eq_false (fun z => z q), b2f] at u1'
            have hs : sumN (fun j => b2n (decide ((if rep j = rep i then rep c else rep j) = j))) n = sumN (fun j => b2n (decide (rep j = j))) n := sumN_eq (fun j _ => by
              have : (if rep j = rep i then rep c else rep j) = rep j := by
                split
                · rename_i z
                  rw [z, q]
                · rfl
              rw [this])
            rw [hs]
            simp (disch := omega) only [S.f, S.c (show i < 30 by omega), hc, ↓bt_test, gb, u1', Bool.true_eq_false, cond_true, cond_false, bI_ok, bI_er, bV_ok, bV_er, bR_ok, bR_er, bD_ok, bD_er, bF_ok, bF_er, thr_ap, cl_nI, lt_nI, le_nI, eq_nI, m1_lt, nI_m1, m1_nI, nI_lt_m1, add_nI, sub_nI, addm_nI, z_addm, z_subm, mul_nI, fit1_0, fit1_1, fit2_n, HI_wI, HK_wI, HL_wI, HR_wI, ckK_wI, chI_wI, sI_wI, wI_wI, lz0, lz1, lz2, lz3, lz4, lz5, lz6, lz7, lz8, lz9, lz10, lz12, lz13, lz16, lz17, lz20, lz21, lz23, lz26, lz30, lz32, lz35, lz40, lz45, lz48, lz57, lz58, lz59, lz60, lz61, lz63, lz64, lz97, lz99, lz100, lz110, lz111, lz126, lz129, lz132, lz133, lz166, lz169, lz255, lz999, lz1183, lz1800, Nat.reduceAdd, Nat.reduceLT, Nat.reduceEqDiff, Nat.not_lt_zero, Nat.lt_irrefl, ↓reduceIte, Nat.zero_add, Nat.add_zero, ne_eq, not_true_eq_false, not_false_eq_true, reduceCtorEq]
          · rw [decide_eq_true q, b2t] at u1'
            have hs := step rep p i c k2 hi (by omega) q
            have hs2 : sumN (fun j => b2n (decide ((if rep j = rep i then rep c else rep j) = j))) n = sumN (fun j => b2n (decide (rep j = j))) n - 1 := by omega
            rw [hs2]
            simp (disch := omega) only [S.f, S.c (show i < 30 by omega), hc, ↓bt_test, gb, u1', Bool.true_eq_false, Nat.succ_ne_self, cond_true, cond_false, bI_ok, bI_er, bV_ok, bV_er, bR_ok, bR_er, bD_ok, bD_er, bF_ok, bF_er, thr_ap, cl_nI, lt_nI, le_nI, eq_nI, m1_lt, nI_m1, m1_nI, nI_lt_m1, add_nI, sub_nI, addm_nI, z_addm, z_subm, mul_nI, fit1_0, fit1_1, fit2_n, HI_wI, HK_wI, HL_wI, HR_wI, ckK_wI, chI_wI, sI_wI, wI_wI, lz0, lz1, lz2, lz3, lz4, lz5, lz6, lz7, lz8, lz9, lz10, lz12, lz13, lz16, lz17, lz20, lz21, lz23, lz26, lz30, lz32, lz35, lz40, lz45, lz48, lz57, lz58, lz59, lz60, lz61, lz63, lz64, lz97, lz99, lz100, lz110, lz111, lz126, lz129, lz132, lz133, lz166, lz169, lz255, lz999, lz1183, lz1800, Nat.reduceAdd, Nat.reduceLT, Nat.reduceEqDiff, Nat.not_lt_zero, Nat.lt_irrefl, ↓reduceIte, Nat.zero_add, Nat.add_zero, ne_eq, not_true_eq_false, not_false_eq_true, reduceCtorEq]
        · dsimp only
          rw [k4 a b ha hb' he]
        · dsimp only
          by_cases z : b = c
          · rw [z, if_pos rfl]
            split
            · rfl
            · rfl
          · rw [k6 b (by omega) he])
    dsimp only at f1 l1 l2 l3 l4 l5 l6
    have g7' : g' 235 3 = nI n := (l6 235 3 (by decide)).trans h7
    have hr := hroots rep'
    have hr0 := hroots rep
    refine ⟨(g', p', rep', .int (nI i)), ?_, l1, l2, l3, fun a b ha hb he => ?_, l6⟩
    · have e4 : RF 104 30 [.ref 235, .int (nI (sumN (fun i => b2n (decide (rep i = i))) n)), .int (nI i), v] [] (wI h g) = RF 104 40 [.ref 235, .int (nI (sumN (fun i => b2n (decide (rep i = i))) n)), .int (nI i), .int (nI 0)] [] (wI h g) := by
        rw [e104_30]
        simp (disch := omega) only [S.f, g7, hi, cond_true, cond_false, bI_ok, bI_er, bV_ok, bV_er, bR_ok, bR_er, bD_ok, bD_er, bF_ok, bF_er, thr_ap, cl_nI, lt_nI, le_nI, eq_nI, m1_lt, nI_m1, m1_nI, nI_lt_m1, add_nI, sub_nI, addm_nI, z_addm, z_subm, mul_nI, fit1_0, fit1_1, fit2_n, HI_wI, HK_wI, HL_wI, HR_wI, ckK_wI, chI_wI, sI_wI, wI_wI, lz0, lz1, lz2, lz3, lz4, lz5, lz6, lz7, lz8, lz9, lz10, lz12, lz13, lz16, lz17, lz20, lz21, lz23, lz26, lz30, lz32, lz35, lz40, lz45, lz48, lz57, lz58, lz59, lz60, lz61, lz63, lz64, lz97, lz99, lz100, lz110, lz111, lz126, lz129, lz132, lz133, lz166, lz169, lz255, lz999, lz1183, lz1800, Nat.reduceAdd, Nat.reduceLT, Nat.reduceEqDiff, Nat.not_lt_zero, Nat.lt_irrefl, ↓reduceIte, Nat.zero_add, Nat.add_zero, ne_eq, not_true_eq_false, not_false_eq_true, reduceCtorEq]
      rw [e4, f1, e104_40]
      simp (disch := omega) only [cond_true, cond_false, bI_ok, bI_er, bV_ok, bV_er, bR_ok, bR_er, bD_ok, bD_er, bF_ok, bF_er, thr_ap, cl_nI, lt_nI, le_nI, eq_nI, m1_lt, nI_m1, m1_nI, nI_lt_m1, add_nI, sub_nI, addm_nI, z_addm, z_subm, mul_nI, fit1_0, fit1_1, fit2_n, HI_wI, HK_wI, HL_wI, HR_wI, ckK_wI, chI_wI, sI_wI, wI_wI, lz0, lz1, lz2, lz3, lz4, lz5, lz6, lz7, lz8, lz9, lz10, lz12, lz13, lz16, lz17, lz20, lz21, lz23, lz26, lz30, lz32, lz35, lz40, lz45, lz48, lz57, lz58, lz59, lz60, lz61, lz63, lz64, lz97, lz99, lz100, lz110, lz111, lz126, lz129, lz132, lz133, lz166, lz169, lz255, lz999, lz1183, lz1800, Nat.reduceAdd, Nat.reduceLT, Nat.reduceEqDiff, Nat.not_lt_zero, Nat.lt_irrefl, ↓reduceIte, Nat.zero_add, Nat.add_zero, ne_eq, not_true_eq_false, not_false_eq_true, reduceCtorEq]
    · by_cases z : a = i
      · subst z
        exact l5 b hb he
      · exact l4 a b (by omega) hb he)
  dsimp only at e3 k1 k2 k3 k4 k5
  have g7' : g 235 3 = nI n := (k5 235 3 (by decide)).trans h7
  have hr := hroots rep
  refine ⟨sumN (fun i => b2n (decide (rep i = i))) n, g, ?_, ⟨rep, fun i hi => ⟨(k2 i hi).2.1, k3 i hi⟩, fun i j hi hj hc => ?_, rfl⟩, hr, k5⟩
  · rw [e2]
    refine e3.trans ?_
    rw [e104_30]
    simp (disch := omega) only [S.f, g7', cond_true, cond_false, bI_ok, bI_er, bV_ok, bV_er, bR_ok, bR_er, bD_ok, bD_er, bF_ok, bF_er, thr_ap, cl_nI, lt_nI, le_nI, eq_nI, m1_lt, nI_m1, m1_nI, nI_lt_m1, add_nI, sub_nI, addm_nI, z_addm, z_subm, mul_nI, fit1_0, fit1_1, fit2_n, HI_wI, HK_wI, HL_wI, HR_wI, ckK_wI, chI_wI, sI_wI, wI_wI, lz0, lz1, lz2, lz3, lz4, lz5, lz6, lz7, lz8, lz9, lz10, lz12, lz13, lz16, lz17, lz20, lz21, lz23, lz26, lz30, lz32, lz35, lz40, lz45, lz48, lz57, lz58, lz59, lz60, lz61, lz63, lz64, lz97, lz99, lz100, lz110, lz111, lz126, lz129, lz132, lz133, lz166, lz169, lz255, lz999, lz1183, lz1800, Nat.reduceAdd, Nat.reduceLT, Nat.reduceEqDiff, Nat.not_lt_zero, Nat.lt_irrefl, ↓reduceIte, Nat.zero_add, Nat.add_zero, ne_eq, not_true_eq_false, not_false_eq_true, reduceCtorEq]
  · refine hc (fun x => rep i = rep x) rfl (fun x y hxy hx => hx.trans ?_)
    obtain ⟨x1, x2, x3⟩ := hE x y hxy
    rcases Nat.lt_trichotomy x y with z | z | z
    · exact (k4 y x x2 z (Y x y hxy)).symm
    · exact absurd z x3
    · exact k4 x y x1 z hxy
/-- all that is reached from a row -/
theorem reached_ok (S : GrS h) {E : EF} {n st : Nat} {f : Nat → Nat → Int32} (hE : ∀ i j, E i j = true → i < n ∧ j < n ∧ i ≠ j) (n30 : n ≤ 30) (G : GL f n E) (hst : st < n) : ∃ x f', CL 106 [.ref 235, .int (nI st)] (wI h f) = some (.ok (.int x), wI h f') ∧ (∀ i, i < 32 → (bt x i = true ↔ Cn E st i)) ∧ ∀ x y, x ≠ 238 → f' x y = f x y := by
  obtain ⟨h7, hb⟩ := G
  have hcn : ∀ i, Cn E st i → i < n := fun i hi => hi.iff (P := fun x => x < n) (fun x y hxy _ => (hE x y hxy).2.1) hst
  have hend : ∀ p (g : Nat → Nat → Int32) (q : Nat → Nat) (T : Nat) (sm : Int32) v, (q 0 = st ∧ 1 ≤ T) → (∀ x y, x < T → y < T → q x = q y → x = y) → (∀ x, x < T → q x < n ∧ Cn E st (q x)) → (∀ i, i < 32 → (bt sm i = true ↔ ∃ x, x < T ∧ q x = i)) → (∀ x, x < p → ∀ r, E (q x) r = true → bt sm r = true) → (∀ a y, a ≠ 238 → g a y = f a y) → p = T → ∃ x f', RF 106 16 [.ref 235, .int (nI st), .int sm, .int (nI T), .int (nI p), v] [] (wI h g) = some (.ok (.int x), wI h f') ∧ (∀ i, i < 32 → (bt x i = true ↔ Cn E st i)) ∧ ∀ x y, x ≠ 238 → f' x y = f x y := by
    intro p g q T sm v h0 h1 h2 h3 h4 h5 hp
    have hT : T ≤ n := inj_le q (fun x hx => (h2 x hx).1) (fun x y hx hy he => h1 x y hx hy he)
    subst hp
    refine ⟨sm, g, ?_, fun i hi => ⟨fun z => ?_, fun z => ?_⟩, h5⟩
    · rw [e106_16]
      simp (disch := omega) only [cond_true, cond_false, bI_ok, bI_er, bV_ok, bV_er, bR_ok, bR_er, bD_ok, bD_er, bF_ok, bF_er, thr_ap, cl_nI, lt_nI, le_nI, eq_nI, m1_lt, nI_m1, m1_nI, nI_lt_m1, add_nI, sub_nI, addm_nI, z_addm, z_subm, mul_nI, fit1_0, fit1_1, fit2_n, HI_wI, HK_wI, HL_wI, HR_wI, ckK_wI, chI_wI, sI_wI, wI_wI, lz0, lz1, lz2, lz3, lz4, lz5, lz6, lz7, lz8, lz9, lz10, lz12, lz13, lz16, lz17, lz20, lz21, lz23, lz26, lz30, lz32, lz35, lz40, lz45, lz48, lz57, lz58, lz59, lz60, lz61, lz63, lz64, lz97, lz99, lz100, lz110, lz111, lz126, lz129, lz132, lz133, lz166, lz169, lz255, lz999, lz1183, lz1800, Nat.reduceAdd, Nat.reduceLT, Nat.reduceEqDiff, Nat.not_lt_zero, Nat.lt_irrefl, ↓reduceIte, Nat.zero_add, Nat.add_zero, ne_eq, not_true_eq_false, not_false_eq_true, reduceCtorEq]
    · obtain ⟨x, x1, x2⟩ := (h3 i hi).mp z
      rw [← x2]
      exact (h2 x x1).2
    · refine z.iff (P := fun x => bt sm x = true) (fun x y hxy hx => ?_) ((h3 st (by omega)).mpr ⟨0, by omega, h0.1⟩)
      obtain ⟨a, a1, a2⟩ := (h3 x (by have := (hE x y hxy).1; omega)).mp hx
      exact h4 a a1 y (by rw [a2]; exact hxy)
  have main : ∀ k p, p + k = n → ∀ (g : Nat → Nat → Int32) (q : Nat → Nat) (T : Nat) (sm : Int32) v, (q 0 = st ∧ 1 ≤ T) → (∀ x, x < T → g 238 x = nI (q x)) → (∀ x y, x < T → y < T → q x = q y → x = y) → (∀ x, x < T → q x < n ∧ Cn E st (q x)) → (∀ i, i < 32 → (bt sm i = true ↔ ∃ x, x < T ∧ q x = i)) → (∀ x, x < p → ∀ r, E (q x) r = true → bt sm r = true) → (∀ a y, a ≠ 238 → g a y = f a y) → p ≤ T → ∃ x f', RF 106 16 [.ref 235, .int (nI st), .int sm, .int (nI T), .int (nI p), v] [] (wI h g) = some (.ok (.int x), wI h f') ∧ (∀ i, i < 32 → (bt x i = true ↔ Cn E st i)) ∧ ∀ x y, x ≠ 238 → f' x y = f x y := by
    intro k
    induction k with
    | zero =>
      intro p hk g q T sm v h0 hq h1 h2 h3 h4 h5 hp
      have hT : T ≤ n := inj_le q (fun x hx => (h2 x hx).1) (fun x y hx hy he => h1 x y hx hy he)
      exact hend p g q T sm v h0 h1 h2 h3 h4 h5 (by omega)
    | succ k ih =>
      intro p hk g q T sm v h0 hq h1 h2 h3 h4 h5 hp
      by_cases hpT : p = T
      · exact hend p g q T sm v h0 h1 h2 h3 h4 h5 hpT
      · have hT : T ≤ n := inj_le q (fun x hx => (h2 x hx).1) (fun x y hx hy he => h1 x y hx hy he)
        have hlt : p < T := by omega
        obtain ⟨⟨g', q', T', sm'⟩, e1, ⟨k0, hp'⟩, kp, kq, k1, k2, k3, k4, k5, k6⟩ := lpEx (β := (Nat → Nat → Int32) × (Nat → Nat) × Nat × Int32) (n := n) (x0 := (g, q, T, sm)) (F := fun i x => RF 106 32 [.ref 235, .int (nI st), .int x.2.2.2, .int (nI x.2.2.1), .int (nI p), .int (nI i)] [] (wI h x.1)) (P := fun i x => ((x.2.1 0 = st ∧ 1 ≤ x.2.2.1) ∧ p < x.2.2.1) ∧ x.2.1 p = q p ∧ (∀ y, y < x.2.2.1 → x.1 238 y = nI (x.2.1 y)) ∧ (∀ y z, y < x.2.2.1 → z < x.2.2.1 → x.2.1 y = x.2.1 z → y = z) ∧ (∀ y, y < x.2.2.1 → x.2.1 y < n ∧ Cn E st (x.2.1 y)) ∧ (∀ i, i < 32 → (bt x.2.2.2 i = true ↔ ∃ y, y < x.2.2.1 ∧ x.2.1 y = i)) ∧ (∀ y, y < p → ∀ r, E (x.2.1 y) r = true → bt x.2.2.2 r = true) ∧ (∀ r, r < i → E (q p) r = true → bt x.2.2.2 r = true) ∧ ∀ a y, a ≠ 238 → x.1 a y = f a y) ⟨⟨h0, hlt⟩, rfl, hq, h1, h2, h3, h4, fun r hr => absurd hr (Nat.not_lt_zero r), h5⟩ (fun i x hi hP => by
          obtain ⟨g, q', T, sm⟩ := x
          obtain ⟨⟨h0, hp'⟩, hqp, hq, h1, h2, h3, h4, h6, h5⟩ := hP
          dsimp only at h0 hp' hqp hq h1 h2 h3 h4 h5 h6 ⊢
          have hT : T ≤ n := inj_le q' (fun x hx => (h2 x hx).1) (fun x y hx hy he => h1 x y hx hy he)
          have g7 : g 235 3 = nI n := (h5 235 3 (by decide)).trans h7
          have gq : g 238 p = nI (q p) := by rw [hq p hp', hqp]
          have hqn := (h2 p hp').1
          have hqc := (h2 p hp').2
          rw [hqp] at hqn hqc
          have gr : bt (g 236 (q p)) i = E (q p) i := by rw [h5 236 (q p) (by decide)]; exact hb (q p) i hqn (by omega)
          by_cases qe : (E (q p) i && !bt sm i) = true
          · rw [Bool.and_eq_true] at qe
            obtain ⟨q1, q2⟩ := qe
            have q2' : bt sm i = false := by
              cases hs : bt sm i with
              | false => rfl
              | true =>
                rw [hs] at q2
                cases q2
            have nq : ∀ x, x < T → q' x ≠ i := fun x hx z => by
              have := (h3 i (by omega)).mpr ⟨x, hx, z⟩
              rw [q2'] at this
              cases this
            have hT1 : T + 1 ≤ n := inj_le (ud q' T i) (fun x hx => by
              by_cases z : x = T
              · rw [z, ud_e]
                exact hi
              · rw [ud_n z]
                exact (h2 x (by omega)).1) (fun x y hx hy he => by
              by_cases z : x = T
              · by_cases y' : y = T
                · omega
                · rw [z, ud_e, ud_n y'] at he
                  exact absurd he.symm (nq y (by omega))
              · by_cases y' : y = T
                · rw [y', ud_e, ud_n z] at he
                  exact absurd he (nq x (by omega))
                · rw [ud_n z, ud_n y'] at he
                  exact h1 x y (by omega) (by omega) he)
            refine ⟨(u2 g 238 T (nI i), ud q' T i, T + 1, sb sm i), ?_, ⟨⟨?_, ?_⟩, ?_⟩, ?_, fun y hy => ?_, fun y z hy hz he => ?_, fun y hy => ?_, fun j hj => ?_, fun y hy r hr => ?_, fun r hr he => ?_, fun a y ha => ?_⟩
            all_goals try dsimp only
            · rw [e106_32]
              simp (disch := omega) only [S.f, S.c (show p < 30 by omega), S.c (show q p < 30 by omega), S.c (show T < 30 by omega), g7, hi, gq, ↓bt_test, ↓bt_nt, ↓sb_eq, gr, q1, q2', Bool.not_false, Bool.and_self, Bool.true_eq_false, show T < 30 by omega, cond_true, cond_false, bI_ok, bI_er, bV_ok, bV_er, bR_ok, bR_er, bD_ok, bD_er, bF_ok, bF_er, thr_ap, cl_nI, lt_nI, le_nI, eq_nI, m1_lt, nI_m1, m1_nI, nI_lt_m1, add_nI, sub_nI, addm_nI, z_addm, z_subm, mul_nI, fit1_0, fit1_1, fit2_n, HI_wI, HK_wI, HL_wI, HR_wI, ckK_wI, chI_wI, sI_wI, wI_wI, lz0, lz1, lz2, lz3, lz4, lz5, lz6, lz7, lz8, lz9, lz10, lz12, lz13, lz16, lz17, lz20, lz21, lz23, lz26, lz30, lz32, lz35, lz40, lz45, lz48, lz57, lz58, lz59, lz60, lz61, lz63, lz64, lz97, lz99, lz100, lz110, lz111, lz126, lz129, lz132, lz133, lz166, lz169, lz255, lz999, lz1183, lz1800, Nat.reduceAdd, Nat.reduceLT, Nat.reduceEqDiff, Nat.not_lt_zero, Nat.lt_irrefl, ↓reduceIte, Nat.zero_add, Nat.add_zero, ne_eq, not_true_eq_false, not_false_eq_true, reduceCtorEq]
            · rw [ud_n (by omega)]
              exact h0.1
            · omega
            · omega
            · rw [ud_n (by omega)]
              exact hqp
            · by_cases z : y = T
              · rw [z, w2_eq, ud_e]
              · rw [w2_ne (by omega), ud_n z]
                exact hq y (by dsimp only at hy; omega)
            · dsimp only at hy hz he
              by_cases z' : y = T
              · by_cases y' : z = T
                · omega
                · rw [z', ud_e, ud_n y'] at he
                  exact absurd he.symm (nq z (by omega))
              · by_cases y' : z = T
                · rw [y', ud_e, ud_n z'] at he
                  exact absurd he (nq y (by omega))
                · rw [ud_n z', ud_n y'] at he
                  exact h1 y z (by omega) (by omega) he
            · by_cases z : y = T
              · rw [z, ud_e]
                exact ⟨hi, hqc.tr (Cn.st q1)⟩
              · rw [ud_n z]
                exact h2 y (by dsimp only at hy; omega)
            · rw [bt_sb sm (by omega), Bool.or_eq_true, decide_eq_true_iff, h3 j hj]
              constructor
              · rintro (⟨x, x1, x2⟩ | z)
                · exact ⟨x, by omega, by rw [ud_n (by omega)]; exact x2⟩
                · exact ⟨T, by omega, by rw [ud_e, z]⟩
              · rintro ⟨x, x1, x2⟩
                by_cases z : x = T
                · rw [z, ud_e] at x2
                  exact .inr x2.symm
                · rw [ud_n z] at x2
                  exact .inl ⟨x, by omega, x2⟩
            · dsimp only at hr
              rw [ud_n (by omega)] at hr
              rw [bt_sb sm (by omega), h4 y hy r hr, Bool.true_or]
            · rw [bt_sb sm (by omega)]
              by_cases z : r = i
              · rw [decide_eq_true z, Bool.or_true]
              · rw [h6 r (by omega) he, Bool.true_or]
            · rw [w2_ne (by omega)]
              exact h5 a y ha
          · rw [Bool.not_eq_true] at qe
            refine ⟨(g, q', T, sm), ?_, ⟨h0, hp'⟩, hqp, hq, h1, h2, h3, h4, fun r hr he => ?_, h5⟩
            · dsimp only
              rw [e106_32]
              simp (disch := omega) only [S.f, S.c (show p < 30 by omega), S.c (show q p < 30 by omega), g7, hi, gq, ↓bt_test, ↓bt_nt, gr, qe, cond_true, cond_false, bI_ok, bI_er, bV_ok, bV_er, bR_ok, bR_er, bD_ok, bD_er, bF_ok, bF_er, thr_ap, cl_nI, lt_nI, le_nI, eq_nI, m1_lt, nI_m1, m1_nI, nI_lt_m1, add_nI, sub_nI, addm_nI, z_addm, z_subm, mul_nI, fit1_0, fit1_1, fit2_n, HI_wI, HK_wI, HL_wI, HR_wI, ckK_wI, chI_wI, sI_wI, wI_wI, lz0, lz1, lz2, lz3, lz4, lz5, lz6, lz7, lz8, lz9, lz10, lz12, lz13, lz16, lz17, lz20, lz21, lz23, lz26, lz30, lz32, lz35, lz40, lz45, lz48, lz57, lz58, lz59, lz60, lz61, lz63, lz64, lz97, lz99, lz100, lz110, lz111, lz126, lz129, lz132, lz133, lz166, lz169, lz255, lz999, lz1183, lz1800, Nat.reduceAdd, Nat.reduceLT, Nat.reduceEqDiff, Nat.not_lt_zero, Nat.lt_irrefl, ↓reduceIte, Nat.zero_add, Nat.add_zero, ne_eq, not_true_eq_false, not_false_eq_true, reduceCtorEq]
            · by_cases z : r = i
              · rw [z] at he ⊢
                rw [he, Bool.true_and] at qe
                dsimp only
                cases hs : bt sm i with
                | true => rfl
                | false =>
                  rw [hs] at qe
                  cases qe
              · exact h6 r (by omega) he)
        dsimp only at e1 k0 hp' kp kq k1 k2 k3 k4 k5 k6
        have g7' : g' 235 3 = nI n := (k6 235 3 (by decide)).trans h7
        have hT' : T' ≤ n := inj_le q' (fun x hx => (k2 x hx).1) (fun x y hx hy he => k1 x y hx hy he)
        obtain ⟨x, f', y1, y2⟩ := ih (p + 1) (by omega) g' q' T' sm' (.int (nI n)) k0 kq k1 k2 k3 (fun y hy r hr => by
          by_cases z : y = p
          · rw [z, kp] at hr
            exact k5 r (hE _ _ hr).2.1 hr
          · exact k4 y (by omega) r hr) k6 (by omega)
        refine ⟨x, f', ?_, y2⟩
        have e2 : RF 106 16 [.ref 235, .int (nI st), .int sm, .int (nI T), .int (nI p), v] [] (wI h g) = RF 106 32 [.ref 235, .int (nI st), .int sm, .int (nI T), .int (nI p), .int (nI 0)] [] (wI h g) := by
          rw [e106_16]
          simp (disch := omega) only [hlt, show p < 30 by omega, cond_true, cond_false, bI_ok, bI_er, bV_ok, bV_er, bR_ok, bR_er, bD_ok, bD_er, bF_ok, bF_er, thr_ap, cl_nI, lt_nI, le_nI, eq_nI, m1_lt, nI_m1, m1_nI, nI_lt_m1, add_nI, sub_nI, addm_nI, z_addm, z_subm, mul_nI, fit1_0, fit1_1, fit2_n, HI_wI, HK_wI, HL_wI, HR_wI, ckK_wI, chI_wI, sI_wI, wI_wI, lz0, lz1, lz2, lz3, lz4, lz5, lz6, lz7, lz8, lz9, lz10, lz12, lz13, lz16, lz17, lz20, lz21, lz23, lz26, lz30, lz32, lz35, lz40, lz45, lz48, lz57, lz58, lz59, lz60, lz61, lz63, lz64, lz97, lz99, lz100, lz110, lz111, lz126, lz129, lz132, lz133, lz166, lz169, lz255, lz999, lz1183, lz1800, Nat.reduceAdd, Nat.reduceLT, Nat.reduceEqDiff, Nat.not_lt_zero, Nat.lt_irrefl, ↓reduceIte, Nat.zero_add, Nat.add_zero, ne_eq, not_true_eq_false, not_false_eq_true, reduceCtorEq]
        rw [← y1, e2, e1, e106_32]
        simp (disch := omega) only [S.f, g7', cond_true, cond_false, bI_ok, bI_er, bV_ok, bV_er, bR_ok, bR_er, bD_ok, bD_er, bF_ok, bF_er, thr_ap, cl_nI, lt_nI, le_nI, eq_nI, m1_lt, nI_m1, m1_nI, nI_lt_m1, add_nI, sub_nI, addm_nI, z_addm, z_subm, mul_nI, fit1_0, fit1_1, fit2_n, HI_wI, HK_wI, HL_wI, HR_wI, ckK_wI, chI_wI, sI_wI, wI_wI, lz0, lz1, lz2, lz3, lz4, lz5, lz6, lz7, lz8, lz9, lz10, lz12, lz13, lz16, lz17, lz20, lz21, lz23, lz26, lz30, lz32, lz35, lz40, lz45, lz48, lz57, lz58, lz59, lz60, lz61, lz63, lz64, lz97, lz99, lz100, lz110, lz111, lz126, lz129, lz132, lz133, lz166, lz169, lz255, lz999, lz1183, lz1800, Nat.reduceAdd, Nat.reduceLT, Nat.reduceEqDiff, Nat.not_lt_zero, Nat.lt_irrefl, ↓reduceIte, Nat.zero_add, Nat.add_zero, ne_eq, not_true_eq_false, not_false_eq_true, reduceCtorEq]
  have e0 : CL 106 [.ref 235, .int (nI st)] (wI h f) = RF 106 16 [.ref 235, .int (nI st), .int ((1 : Int32) <<< (nI st &&& 31)), .int (nI 1), .int (nI 0), .null] [] (wI h (u2 f 238 0 (nI st))) := by
    rw [e106]
    simp (disch := omega) only [S.f, S.c (show 0 < 30 by omega), cond_true, cond_false, bI_ok, bI_er, bV_ok, bV_er, bR_ok, bR_er, bD_ok, bD_er, bF_ok, bF_er, thr_ap, cl_nI, lt_nI, le_nI, eq_nI, m1_lt, nI_m1, m1_nI, nI_lt_m1, add_nI, sub_nI, addm_nI, z_addm, z_subm, mul_nI, fit1_0, fit1_1, fit2_n, HI_wI, HK_wI, HL_wI, HR_wI, ckK_wI, chI_wI, sI_wI, wI_wI, lz0, lz1, lz2, lz3, lz4, lz5, lz6, lz7, lz8, lz9, lz10, lz12, lz13, lz16, lz17, lz20, lz21, lz23, lz26, lz30, lz32, lz35, lz40, lz45, lz48, lz57, lz58, lz59, lz60, lz61, lz63, lz64, lz97, lz99, lz100, lz110, lz111, lz126, lz129, lz132, lz133, lz166, lz169, lz255, lz999, lz1183, lz1800, Nat.reduceAdd, Nat.reduceLT, Nat.reduceEqDiff, Nat.not_lt_zero, Nat.lt_irrefl, ↓reduceIte, Nat.zero_add, Nat.add_zero, ne_eq, not_true_eq_false, not_false_eq_true, reduceCtorEq]
  rw [e0]
  refine main n 0 (by omega) _ (fun _ => st) 1 _ _ ⟨rfl, by decide⟩ (fun x hx => ?_) (fun x y hx hy _ => by omega) (fun x hx => ⟨hst, Cn.rf st⟩) (fun i hi => ?_) (fun x hx => absurd hx (Nat.not_lt_zero x)) (fun a y ha => w2_ne (by omega)) (by omega)
  · rw [show x = 0 by omega]
    exact w2_eq _ _ _ _
  · rw [bt_one (by omega), decide_eq_true_iff]
    exact ⟨fun z => ⟨0, by decide, z.symm⟩, fun ⟨_, _, z⟩ => z.symm⟩
end GR
