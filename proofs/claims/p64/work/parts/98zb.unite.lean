/-! THE CLASS: groups loaded, and united -/
def GrS (h : Hp) : Prop := HK h 235 = 3 ∧ (HR h 235 0 = 236 ∧ HR h 235 1 = 237 ∧ HR h 235 2 = 238) ∧ ∀ i, i < 3 → HK h (236 + i) = 100 ∧ HL h (236 + i) = 30
def Fg (f f' : Nat → Nat → Int32) : Prop := ∀ a x, ¬(235 ≤ a ∧ a < 239) → f' a x = f a x
theorem Fg.trans {f g k : Nat → Nat → Int32} (H : Fg f g) (K : Fg g k) : Fg f k := fun a x q => (K a x q).trans (H a x q)
def grE (A : AF) (f : Nat → Nat → Int32) (t : Nat) : EF := fun i j => decide (i < tn f t ∧ j < tn f t) && lkA A (tk f t i) (tk f t j)
theorem grE_t {A : AF} {f : Nat → Nat → Int32} {t i j : Nat} (h : grE A f t i j = true) : (i < tn f t ∧ j < tn f t) ∧ lkA A (tk f t i) (tk f t j) = true := by
  unfold grE at h
  rw [Bool.and_eq_true] at h
  exact ⟨of_decide_eq_true h.1, h.2⟩
theorem grE_sy (A : AF) (f : Nat → Nat → Int32) (t : Nat) : Sy (grE A f t) := fun x y h => by
  obtain ⟨⟨h1, h2⟩, h3⟩ := grE_t h
  unfold grE
  rw [decide_eq_true ⟨h2, h1⟩, lkA_sy h3]
  rfl
theorem grE_ir (A : AF) (f : Nat → Nat → Int32) (t i : Nat) : grE A f t i i = false := by
  cases hq : grE A f t i i with
  | false => rfl
  | true =>
    obtain ⟨s, o, _, _, h⟩ := lkA_iff.mp (grE_t hq).2
    have := of_decide_eq_true h
    omega
section GR
variable {h : Hp}
theorem GrS.wI (S : GrS h) (f : Nat → Nat → Int32) : GrS (wI h f) := S
theorem GrS.f (S : GrS h) : ckK h 235 3 = true ∧ HR h 235 0 = 236 ∧ HR h 235 1 = 237 ∧ HR h 235 2 = 238 := ⟨ck_of S.1, S.2.1⟩
theorem GrS.c (S : GrS h) {i : Nat} (hi : i < 30) : chI h 236 100 (nI i) = true ∧ chI h 237 100 (nI i) = true ∧ chI h 238 100 (nI i) = true := by
  have key : ∀ j, j < 3 → chI h (236 + j) 100 (nI i) = true := fun j hj => chI_nI (S.2.2 j hj).1 (S.2.2 j hj).2 hi (by decide)
  exact ⟨key 0 (by decide), key 1 (by decide), key 2 (by decide)⟩
def GL (f : Nat → Nat → Int32) (n : Nat) (E : EF) : Prop := f 235 3 = nI n ∧ ∀ i j, i < n → j < 32 → bt (f 236 i) j = E i j
theorem gload_ok (S : GrS h) {t : Nat} {A D : AF} {f : Nat → Nat → Int32} (T : TbS h t) (R : RT f t A D) (ht : t + 10 ≤ 235) : ∃ f', CL 101 [.ref 235, .ref t] (wI h f) = some (.ok .null, wI h f') ∧ GL f' (tn f t) (grE A f t) ∧ ∀ a x, ¬(a = 235 ∧ x = 3) → a ≠ 236 → f' a x = f a x := by
  have n30 := R.n30
  have htf := T.f.1
  have hn := R.N.n
  have est : CL 101 [.ref 235, .ref t] (wI h f) = RF 101 10 [.ref 235, .ref t, .int (nI 0), .null] [] (wI h (u2 f 235 3 (nI (tn f t)))) := by
    rw [e101]
    simp (disch := omega) only [S.f, htf, hn, cond_true, cond_false, bI_ok, bI_er, bV_ok, bV_er, bR_ok, bR_er, bD_ok, bD_er, bF_ok, bF_er, thr_ap, cl_nI, lt_nI, le_nI, eq_nI, m1_lt, nI_m1, m1_nI, nI_lt_m1, add_nI, sub_nI, addm_nI, z_addm, z_subm, mul_nI, fit1_0, fit1_1, fit2_n, HI_wI, HK_wI, HL_wI, HR_wI, ckK_wI, chI_wI, sI_wI, wI_wI, lz0, lz1, lz2, lz3, lz4, lz5, lz6, lz7, lz8, lz9, lz10, lz12, lz13, lz16, lz17, lz20, lz21, lz23, lz26, lz30, lz32, lz35, lz40, lz45, lz48, lz57, lz58, lz59, lz60, lz61, lz63, lz64, lz97, lz99, lz100, lz110, lz111, lz126, lz129, lz132, lz133, lz166, lz169, lz255, lz999, lz1183, lz1800, Nat.reduceAdd, Nat.reduceLT, Nat.reduceEqDiff, Nat.not_lt_zero, Nat.lt_irrefl, ↓reduceIte, Nat.zero_add, Nat.add_zero, ne_eq, not_true_eq_false, not_false_eq_true, reduceCtorEq]
  rw [est]
  obtain ⟨⟨g, v⟩, e1, h1, h2⟩ := lpEx (β := (Nat → Nat → Int32) × Value) (n := tn f t) (x0 := (u2 f 235 3 (nI (tn f t)), Value.null)) (F := fun i x => RF 101 10 [.ref 235, .ref t, .int (nI i), x.2] [] (wI h x.1)) (P := fun i x => (∀ a j, a < i → j < 32 → bt (x.1 236 a) j = (decide (j < i) && grE A f t a j)) ∧ ∀ a y, a ≠ 236 → x.1 a y = u2 f 235 3 (nI (tn f t)) a y) ⟨fun a j ha => absurd ha (Nat.not_lt_zero a), fun _ _ _ => rfl⟩ (fun i x hi hP => by
    obtain ⟨g, v⟩ := x
    obtain ⟨h1, h2⟩ := hP
    dsimp only at h1 h2 ⊢
    have g7 : g 235 3 = nI (tn f t) := (h2 235 3 (by decide)).trans (w2_eq _ _ _ _)
    obtain ⟨g', k1, k2, k3, k4⟩ := lpEx (β := Nat → Nat → Int32) (n := i) (x0 := u2 g 236 i (nI 0)) (F := fun j x => RF 101 27 [.ref 235, .ref t, .int (nI i), .int (nI j)] [] (wI h x)) (P := fun c x => (∀ a j, a < i → j < 32 → bt (x 236 a) j = (decide (j < i ∨ (j = i ∧ a < c)) && grE A f t a j)) ∧ (∀ j, j < 32 → bt (x 236 i) j = (decide (j < c) && grE A f t i j)) ∧ ∀ a y, a ≠ 236 → x a y = g a y) ⟨fun a j ha hj => by
      rw [w2_ne (by omega), h1 a j ha hj]
      congr 1
      rw [decide_eq_decide]
      omega, fun j hj => by
      rw [w2_eq, bt_0, decide_eq_false (by omega), Bool.false_and], fun a y q => w2_ne (by omega)⟩ (fun c x hc hP => by
      obtain ⟨p1, p2, p3⟩ := hP
      have hag : ∀ a y, a < 235 → x a y = f a y := fun a y ha => by
        rw [p3 a y (by omega), h2 a y (by omega), w2_ne (by omega)]
      have Rx : RT x t A D := R.cong (fun a y ha => hag (t + a) y (by omega))
      have etn : tn x t = tn f t := rd_cg (hag t 3 (by omega))
      have ektk : ∀ r, tk x t r = tk f t r := fun r => rd_cg (hag (t + 1) r (by omega))
      have hp := areLinked_ok (T.wI x) Rx.N (r := i) (q := c) (by omega) (by omega)
      rw [HI_wI, lk_A Rx (by omega) (by omega), ektk, ektk] at hp
      have her : grE A f t i c = lkA A (tk f t i) (tk f t c) := by
        unfold grE
        rw [decide_eq_true ⟨hi, by omega⟩, Bool.true_and]
      have hsy : grE A f t c i = grE A f t i c := by
        cases hq : grE A f t i c with
        | true => exact grE_sy A f t _ _ hq
        | false =>
          cases hq2 : grE A f t c i with
          | false => rfl
          | true =>
            rw [grE_sy A f t _ _ hq2] at hq
            cases hq
      rw [← her] at hp
      cases hq : grE A f t i c with
      | false =>
        rw [hq, b2f] at hp
        refine ⟨x, ?_, fun a j ha hj => ?_, fun j hj => ?_, p3⟩
        · rw [e101_27]
          simp (disch := omega) only [S.f, htf, hc, hp, cond_true, cond_false, bI_ok, bI_er, bV_ok, bV_er, bR_ok, bR_er, bD_ok, bD_er, bF_ok, bF_er, thr_ap, cl_nI, lt_nI, le_nI, eq_nI, m1_lt, nI_m1, m1_nI, nI_lt_m1, add_nI, sub_nI, addm_nI, z_addm, z_subm, mul_nI, fit1_0, fit1_1, fit2_n, HI_wI, HK_wI, HL_wI, HR_wI, ckK_wI, chI_wI, sI_wI, wI_wI, lz0, lz1, lz2, lz3, lz4, lz5, lz6, lz7, lz8, lz9, lz10, lz12, lz13, lz16, lz17, lz20, lz21, lz23, lz26, lz30, lz32, lz35, lz40, lz45, lz48, lz57, lz58, lz59, lz60, lz61, lz63, lz64, lz97, lz99, lz100, lz110, lz111, lz126, lz129, lz132, lz133, lz166, lz169, lz255, lz999, lz1183, lz1800, Nat.reduceAdd, Nat.reduceLT, Nat.reduceEqDiff, Nat.not_lt_zero, Nat.lt_irrefl, ↓reduceIte, Nat.zero_add, Nat.add_zero, ne_eq, not_true_eq_false, not_false_eq_true, reduceCtorEq]
        · rw [p1 a j ha hj]
          by_cases q : a = c ∧ j = i
          · rw [q.1, q.2, hsy, hq, Bool.and_false, Bool.and_false]
          · congr 1
            rw [decide_eq_decide]
            omega
        · rw [p2 j hj]
          by_cases q : j = c
          · rw [q, hq, Bool.and_false, Bool.and_false]
          · congr 1
            rw [decide_eq_decide]
            omega
      | true =>
        rw [hq, b2t] at hp
        refine ⟨u2 (u2 x 236 i (sb (x 236 i) c)) 236 c (sb (x 236 c) i), ?_, fun a j ha hj => ?_, fun j hj => ?_, fun a y q => by rw [w2_ne (by omega), w2_ne (by omega)]; exact p3 a y q⟩
        · have hci : c ≠ i := by omega
          rw [e101_27]
          simp (disch := omega) only [S.f, S.c (show i < 30 by omega), S.c (show c < 30 by omega), htf, hc, hp, ↓sb_eq, w2_ne, Nat.succ_ne_self, cond_true, cond_false, bI_ok, bI_er, bV_ok, bV_er, bR_ok, bR_er, bD_ok, bD_er, bF_ok, bF_er, thr_ap, cl_nI, lt_nI, le_nI, eq_nI, m1_lt, nI_m1, m1_nI, nI_lt_m1, add_nI, sub_nI, addm_nI, z_addm, z_subm, mul_nI, fit1_0, fit1_1, fit2_n, HI_wI, HK_wI, HL_wI, HR_wI, ckK_wI, chI_wI, sI_wI, wI_wI, lz0, lz1, lz2, lz3, lz4, lz5, lz6, lz7, lz8, lz9, lz10, lz12, lz13, lz16, lz17, lz20, lz21, lz23, lz26, lz30, lz32, lz35, lz40, lz45, lz48, lz57, lz58, lz59, lz60, lz61, lz63, lz64, lz97, lz99, lz100, lz110, lz111, lz126, lz129, lz132, lz133, lz166, lz169, lz255, lz999, lz1183, lz1800, Nat.reduceAdd, Nat.reduceLT, Nat.reduceEqDiff, Nat.not_lt_zero, Nat.lt_irrefl, ↓reduceIte, Nat.zero_add, Nat.add_zero, ne_eq, not_true_eq_false, not_false_eq_true, reduceCtorEq]
        · by_cases q : a = c
          · rw [q, w2_eq, bt_sb _ (by omega), p1 c j (by omega) hj]
            by_cases q2 : j = i
            · rw [q2, hsy, hq, decide_eq_true rfl, Bool.or_true, decide_eq_true (by omega)]
              rfl
            · rw [decide_eq_false q2, Bool.or_false]
              congr 1
              rw [decide_eq_decide]
              omega
          · rw [w2_ne (by omega), w2_ne (by omega), p1 a j ha hj]
            congr 1
            rw [decide_eq_decide]
            omega
        · rw [w2_ne (by omega), w2_eq, bt_sb _ (by omega), p2 j hj]
          by_cases q2 : j = c
          · rw [q2, hq, decide_eq_true rfl, Bool.or_true, decide_eq_true (by omega)]
            rfl
          · rw [decide_eq_false q2, Bool.or_false]
            congr 1
            rw [decide_eq_decide]
            omega)
    refine ⟨(g', .int (nI i)), ?_, fun a j ha hj => ?_, fun a y q => by dsimp only; rw [k4 a y q, h2 a y q]⟩
    · have e2 : RF 101 10 [.ref 235, .ref t, .int (nI i), v] [] (wI h g) = RF 101 27 [.ref 235, .ref t, .int (nI i), .int (nI 0)] [] (wI h (u2 g 236 i (nI 0))) := by
        rw [e101_10]
        simp (disch := omega) only [S.f, S.c (show i < 30 by omega), g7, hi, cond_true, cond_false, bI_ok, bI_er, bV_ok, bV_er, bR_ok, bR_er, bD_ok, bD_er, bF_ok, bF_er, thr_ap, cl_nI, lt_nI, le_nI, eq_nI, m1_lt, nI_m1, m1_nI, nI_lt_m1, add_nI, sub_nI, addm_nI, z_addm, z_subm, mul_nI, fit1_0, fit1_1, fit2_n, HI_wI, HK_wI, HL_wI, HR_wI, ckK_wI, chI_wI, sI_wI, wI_wI, lz0, lz1, lz2, lz3, lz4, lz5, lz6, lz7, lz8, lz9, lz10, lz12, lz13, lz16, lz17, lz20, lz21, lz23, lz26, lz30, lz32, lz35, lz40, lz45, lz48, lz57, lz58, lz59, lz60, lz61, lz63, lz64, lz97, lz99, lz100, lz110, lz111, lz126, lz129, lz132, lz133, lz166, lz169, lz255, lz999, lz1183, lz1800, Nat.reduceAdd, Nat.reduceLT, Nat.reduceEqDiff, Nat.not_lt_zero, Nat.lt_irrefl, ↓reduceIte, Nat.zero_add, Nat.add_zero, ne_eq, not_true_eq_false, not_false_eq_true, reduceCtorEq]
      rw [e2, k1, e101_27]
      simp (disch := omega) only [cond_true, cond_false, bI_ok, bI_er, bV_ok, bV_er, bR_ok, bR_er, bD_ok, bD_er, bF_ok, bF_er, thr_ap, cl_nI, lt_nI, le_nI, eq_nI, m1_lt, nI_m1, m1_nI, nI_lt_m1, add_nI, sub_nI, addm_nI, z_addm, z_subm, mul_nI, fit1_0, fit1_1, fit2_n, HI_wI, HK_wI, HL_wI, HR_wI, ckK_wI, chI_wI, sI_wI, wI_wI, lz0, lz1, lz2, lz3, lz4, lz5, lz6, lz7, lz8, lz9, lz10, lz12, lz13, lz16, lz17, lz20, lz21, lz23, lz26, lz30, lz32, lz35, lz40, lz45, lz48, lz57, lz58, lz59, lz60, lz61, lz63, lz64, lz97, lz99, lz100, lz110, lz111, lz126, lz129, lz132, lz133, lz166, lz169, lz255, lz999, lz1183, lz1800, Nat.reduceAdd, Nat.reduceLT, Nat.reduceEqDiff, Nat.not_lt_zero, Nat.lt_irrefl, ↓reduceIte, Nat.zero_add, Nat.add_zero, ne_eq, not_true_eq_false, not_false_eq_true, reduceCtorEq]
    · dsimp only
      by_cases q : a = i
      · rw [q, k3 j hj]
        by_cases q2 : j = i
        · rw [q2, grE_ir, Bool.and_false, Bool.and_false]
        · congr 1
          rw [decide_eq_decide]
          omega
      · rw [k2 a j (by omega) hj]
        congr 1
        rw [decide_eq_decide]
        omega)
  dsimp only at e1 h1 h2
  have g7 : g 235 3 = nI (tn f t) := (h2 235 3 (by decide)).trans (w2_eq _ _ _ _)
  refine ⟨g, ?_, ⟨g7, fun i j hi hj => ?_⟩, fun a x q1 q2 => by rw [h2 a x q2, w2_ne q1]⟩
  · rw [e1, e101_10]
    simp (disch := omega) only [S.f, g7, cond_true, cond_false, bI_ok, bI_er, bV_ok, bV_er, bR_ok, bR_er, bD_ok, bD_er, bF_ok, bF_er, thr_ap, cl_nI, lt_nI, le_nI, eq_nI, m1_lt, nI_m1, m1_nI, nI_lt_m1, add_nI, sub_nI, addm_nI, z_addm, z_subm, mul_nI, fit1_0, fit1_1, fit2_n, HI_wI, HK_wI, HL_wI, HR_wI, ckK_wI, chI_wI, sI_wI, wI_wI, lz0, lz1, lz2, lz3, lz4, lz5, lz6, lz7, lz8, lz9, lz10, lz12, lz13, lz16, lz17, lz20, lz21, lz23, lz26, lz30, lz32, lz35, lz40, lz45, lz48, lz57, lz58, lz59, lz60, lz61, lz63, lz64, lz97, lz99, lz100, lz110, lz111, lz126, lz129, lz132, lz133, lz166, lz169, lz255, lz999, lz1183, lz1800, Nat.reduceAdd, Nat.reduceLT, Nat.reduceEqDiff, Nat.not_lt_zero, Nat.lt_irrefl, ↓reduceIte, Nat.zero_add, Nat.add_zero, ne_eq, not_true_eq_false, not_false_eq_true, reduceCtorEq]
  · rw [h1 i j hi hj]
    cases hq : grE A f t i j with
    | false => rw [Bool.and_false]
    | true => rw [decide_eq_true (grE_t hq).1.2, Bool.true_and]
/-- d steps up from i the root r -/
def rtd (p : Nat → Nat) : Nat → Nat → Nat → Prop
  | 0, i, r => i = r ∧ p r = r
  | d + 1, i, r => p i ≠ i ∧ rtd p d (p i) r
theorem rtd.root {p : Nat → Nat} : ∀ {d i r : Nat}, rtd p d i r → p r = r
  | 0, _, _, h => h.2
  | _ + 1, _, _, h => h.2.root
theorem rtd.uniq {p : Nat → Nat} : ∀ {d d' i r r' : Nat}, rtd p d i r → rtd p d' i r' → d = d' ∧ r = r'
  | 0, 0, _, _, _, h, h' => ⟨rfl, h.1.symm.trans h'.1⟩
  | 0, _ + 1, i, r, _, h, h' => by
    obtain ⟨h1, h2⟩ := h
    rw [h1] at h'
    exact absurd h2 h'.1
  | _ + 1, 0, i, _, r', h, h' => by
    obtain ⟨h1, h2⟩ := h'
    rw [h1] at h
    exact absurd h2 h.1
  | d + 1, d' + 1, _, _, _, h, h' => by
    have := rtd.uniq h.2 h'.2
    exact ⟨by omega, this.2⟩
def ups (p : Nat → Nat) (i : Nat) : Nat → Nat
  | 0 => i
  | t + 1 => p (ups p i t)
theorem rtd.at {p : Nat → Nat} {d i r : Nat} (h : rtd p d i r) : ∀ {t : Nat}, t ≤ d → rtd p (d - t) (ups p i t) r
  | 0, _ => h
  | t + 1, ht => by
    have := h.at (t := t) (by omega)
    rw [show d - t = d - (t + 1) + 1 by omega] at this
    exact this.2
/-- a forest below n with the roots as rep tells -/
def FO (p : Nat → Nat) (n : Nat) (rep : Nat → Nat) : Prop := ∀ i, i < n → p i < n ∧ rep i < n ∧ ∃ d, rtd p d i (rep i)
theorem FO.len {p rep : Nat → Nat} {n d i r : Nat} (F : FO p n rep) (hi : i < n) (h : rtd p d i r) : d < n := by
  have hlt : ∀ t, ups p i t < n := by
    intro t
    induction t with
    | zero => exact hi
    | succ t ih => exact (F _ ih).1
  exact inj_le (n := d + 1) (ups p i) (fun t _ => hlt t) (fun t t' ht ht' he => by
    have h1 := h.at (t := t) (by omega)
    have h2 := h.at (t := t') (by omega)
    rw [he] at h1
    have := (h1.uniq h2).1
    omega)
theorem FO.rr {p rep : Nat → Nat} {n i : Nat} (F : FO p n rep) (hi : i < n) : rep (rep i) = rep i ∧ p (rep i) = rep i := by
  obtain ⟨_, f2, d, hd⟩ := F i hi
  obtain ⟨_, _, d', hd'⟩ := F _ f2
  have h0 : rtd p 0 (rep i) (rep i) := ⟨rfl, hd.root⟩
  exact ⟨(hd'.uniq h0).2, hd.root⟩
/-- root a hung below root b -/
theorem FO.join {p rep : Nat → Nat} {n a b : Nat} (F : FO p n rep) (ha : a < n) (hb : b < n) (hne : rep a ≠ rep b) : FO (ud p (rep a) (rep b)) n (fun i => if rep i = rep a then rep b else rep i) := by
  have ra := F.rr ha
  have rb := F.rr hb
  have key : ∀ d i r, rtd p d i r → (r ≠ rep a → rtd (ud p (rep a) (rep b)) d i r) ∧ (r = rep a → rtd (ud p (rep a) (rep b)) (d + 1) i (rep b)) := by
    intro d
    induction d with
    | zero =>
      intro i r h
      obtain ⟨h1, h2⟩ := h
      subst h1
      refine ⟨fun hr => ⟨rfl, by rw [ud_n hr]; exact h2⟩, fun hr => ?_⟩
      subst hr
      refine ⟨by rw [ud_e]; exact fun z => hne z.symm, ?_⟩
      rw [ud_e]
      exact ⟨rfl, by rw [ud_n (fun z => hne z.symm)]; exact rb.2⟩
    | succ d ih =>
      intro i r h
      have hi : i ≠ rep a := fun z => by
        rw [z] at h
        exact h.1 ra.2
      obtain ⟨k1, k2⟩ := ih (p i) r h.2
      refine ⟨fun hr => ⟨by rw [ud_n hi]; exact h.1, by rw [ud_n hi]; exact k1 hr⟩, fun hr => ⟨by rw [ud_n hi]; exact h.1, by rw [ud_n hi]; exact k2 hr⟩⟩
  intro i hi
  obtain ⟨f1, f2, d, hd⟩ := F i hi
  refine ⟨?_, ?_, ?_⟩
  · by_cases q : i = rep a
    · rw [q, ud_e]
      exact (F b hb).2.1
    · rw [ud_n q]
      exact f1
  · dsimp only
    split
    · exact (F b hb).2.1
    · exact f2
  · obtain ⟨k1, k2⟩ := key d i _ hd
    by_cases q : rep i = rep a
    · dsimp only
      rw [if_pos q]
      exact ⟨d + 1, k2 q⟩
    · dsimp only
      rw [if_neg q]
      exact ⟨d, k1 q⟩
theorem rootOf_ok (S : GrS h) {p rep : Nat → Nat} {n : Nat} {f : Nat → Nat → Int32} (n30 : n ≤ 30) (h7 : f 235 3 = nI n) (hp : ∀ i, i < n → f 237 i = nI (p i)) (F : FO p n rep) {i : Nat} (hi : i < n) : CL 102 [.ref 235, .int (nI i)] (wI h f) = some (.ok (.int (nI (rep i))), wI h f) := by
  obtain ⟨_, _, d, hd⟩ := F i hi
  have hlen := F.len hi hd
  have key : ∀ d x t, x < n → rtd p d x (rep i) → t + d < n → RF 102 4 [.ref 235, .int (nI i), .int (nI x), .int (nI t)] [] (wI h f) = some (.ok (.int (nI (rep i))), wI h f) := by
    intro d
    induction d with
    | zero =>
      intro x t hx hr ht
      obtain ⟨h1, h2⟩ := hr
      subst h1
      have hpx := hp _ hx
      rw [h2] at hpx
      rw [e102_4]
      simp (disch := omega) only [S.f, S.c (show rep i < 30 by omega), h7, show t < n by omega, hpx, cond_true, cond_false, bI_ok, bI_er, bV_ok, bV_er, bR_ok, bR_er, bD_ok, bD_er, bF_ok, bF_er, thr_ap, cl_nI, lt_nI, le_nI, eq_nI, m1_lt, nI_m1, m1_nI, nI_lt_m1, add_nI, sub_nI, addm_nI, z_addm, z_subm, mul_nI, fit1_0, fit1_1, fit2_n, HI_wI, HK_wI, HL_wI, HR_wI, ckK_wI, chI_wI, sI_wI, wI_wI, lz0, lz1, lz2, lz3, lz4, lz5, lz6, lz7, lz8, lz9, lz10, lz12, lz13, lz16, lz17, lz20, lz21, lz23, lz26, lz30, lz32, lz35, lz40, lz45, lz48, lz57, lz58, lz59, lz60, lz61, lz63, lz64, lz97, lz99, lz100, lz110, lz111, lz126, lz129, lz132, lz133, lz166, lz169, lz255, lz999, lz1183, lz1800, Nat.reduceAdd, Nat.reduceLT, Nat.reduceEqDiff, Nat.not_lt_zero, Nat.lt_irrefl, ↓reduceIte, Nat.zero_add, Nat.add_zero, ne_eq, not_true_eq_false, not_false_eq_true, reduceCtorEq]
    | succ d ih =>
      intro x t hx hr ht
      have hpx := hp x hx
      have hpn := (F x hx).1
      rw [← ih (p x) (t + 1) hpn hr.2 (by omega), e102_4]
      simp (disch := omega) only [S.f, S.c (show x < 30 by omega), h7, show t < n by omega, hpx, hr.1, cond_true, cond_false, bI_ok, bI_er, bV_ok, bV_er, bR_ok, bR_er, bD_ok, bD_er, bF_ok, bF_er, thr_ap, cl_nI, lt_nI, le_nI, eq_nI, m1_lt, nI_m1, m1_nI, nI_lt_m1, add_nI, sub_nI, addm_nI, z_addm, z_subm, mul_nI, fit1_0, fit1_1, fit2_n, HI_wI, HK_wI, HL_wI, HR_wI, ckK_wI, chI_wI, sI_wI, wI_wI, lz0, lz1, lz2, lz3, lz4, lz5, lz6, lz7, lz8, lz9, lz10, lz12, lz13, lz16, lz17, lz20, lz21, lz23, lz26, lz30, lz32, lz35, lz40, lz45, lz48, lz57, lz58, lz59, lz60, lz61, lz63, lz64, lz97, lz99, lz100, lz110, lz111, lz126, lz129, lz132, lz133, lz166, lz169, lz255, lz999, lz1183, lz1800, Nat.reduceAdd, Nat.reduceLT, Nat.reduceEqDiff, Nat.not_lt_zero, Nat.lt_irrefl, ↓reduceIte, Nat.zero_add, Nat.add_zero, ne_eq, not_true_eq_false, not_false_eq_true, reduceCtorEq]
  rw [e102]
  exact key d i 0 hi hd (by omega)
end GR
