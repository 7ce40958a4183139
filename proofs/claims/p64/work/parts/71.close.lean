/-! THE BOOK CHANGED -/
theorem RT.cong {f g : Nat → Nat → Int32} {t : Nat} {A D : AF} (R : RT f t A D) (h : ∀ i x, i < 10 → g (t + i) x = f (t + i) x) : RT g t A D := by
  have N := R.N
  have i3 : tn g t = tn f t := rd_cg (h 0 3 (by decide))
  have i4 : tm g t = tm f t := rd_cg (h 0 4 (by decide))
  have ik : ∀ x, tk g t x = tk f t x := fun x => rd_cg (h 1 x (by decide))
  have ia : ∀ s, s < 3 → ∀ x, ta g t s x = ta f t s x := fun s hs x => rd_cg (by rw [Nat.add_assoc]; exact h (3 + s) x (by omega))
  have id' : ∀ s, s < 3 → ∀ x, td g t s x = td f t s x := fun s hs x => rd_cg (by rw [Nat.add_assoc]; exact h (7 + s) x (by omega))
  refine ⟨⟨N.1.cg (h 0 3 (by decide)), N.2.1.cg (h 0 4 (by decide)), fun x hx => (N.2.2.1 x hx).cg (h 1 x (by decide)), fun s hs x hx => (N.2.2.2.1 s hs x hx).cg (by rw [Nat.add_assoc]; exact h (3 + s) x (by omega)), fun s hs x hx => (N.2.2.2.2 s hs x hx).cg (by rw [Nat.add_assoc]; exact h (7 + s) x (by omega))⟩, ?_, ?_, ?_, ?_, ?_⟩
  · intro r r' h1 h2
    rw [ik, ik]
    exact R.lt h1 (by omega)
  · intro r hr
    rw [ia 0 (by decide), ia 1 (by decide), ia 2 (by decide)]
    exact R.ne (by omega)
  · intro s r hs hr
    rw [ik, ia s hs, id' s hs]
    exact ⟨R.a hs (by omega), R.d hs (by omega)⟩
  · intro s k hs hk hh
    exact R.no hs hk (fun r hr => by rw [← ik]; exact hh r (by omega))
  · rw [i4]
    exact R.m
theorem RT.fr {f g : Nat → Nat → Int32} {t lo hi : Nat} {A D : AF} (R : RT f t A D) (h : Fr lo hi f g) (hd : t + 10 ≤ lo ∨ hi ≤ t) : RT g t A D := R.cong (fun i x hi => h (t + i) x (by omega))
theorem RB.cong {f g : Nat → Nat → Int32} {c n : Nat} {Q : QF} (R : RB f c n Q) (h : ∀ i x, i < 4 → g (c + i) x = f (c + i) x) : RB g c n Q := by
  refine ⟨R.1, (h 0 3 (by decide)).trans R.2.1, fun i hi => ?_⟩
  rw [h 1 i (by decide), h 2 i (by decide), h 3 i (by decide)]
  exact R.2.2 i hi
theorem RB.fr {f g : Nat → Nat → Int32} {c n lo hi : Nat} {Q : QF} (R : RB f c n Q) (h : Fr lo hi f g) (hd : c + 4 ≤ lo ∨ hi ≤ c) : RB g c n Q := R.cong (fun i x hi => h (c + i) x (by omega))
theorem RK.fr {f g : Nat → Nat → Int32} {B lo hi : Nat} {b : Bk} (R : RK f B b) (h : Fr lo hi f g) (hd : B + 17 ≤ lo ∨ hi ≤ B) : RK g B b := by
  refine ⟨R.t.fr h (by omega), R.q.fr h (by omega), fun s hs => ?_, fun i hi => ?_, ?_⟩
  · rw [h _ _ (by omega)]
    exact R.tr hs
  · rw [h _ _ (by omega)]
    exact R.tt hi
  · rw [h _ _ (by omega)]
    exact R.y
theorem RB.nil {f : Nat → Nat → Int32} {c : Nat} {Q : QF} (h : f c 3 = nI 0) : RB f c 0 Q := ⟨by decide, h, fun i hi => by omega⟩
theorem tot_prA {A : AF} {Q : QF} {n : Nat} (hq : ∀ i, i < n → (Q i).1 < 3 ∧ (Q i).2.1 < 1000 ∧ 0 < (Q i).2.2) : ∀ i, i ≤ n → tot (prA A Q i) = tot A + nwA A Q i := by
  intro i
  induction i with
  | zero => exact fun _ => (Nat.add_zero (tot A)).symm
  | succ i ih =>
    intro hi
    have ih := ih (by omega)
    obtain ⟨h1, h2, h3⟩ := hq i (by omega)
    have ht := tot_sA (prA A Q i) (v := (Q i).2.2) h1 h2
    rw [← pv_prA] at ht
    have hz : decide (oc A Q i = 110) = !decide (0 < pv A Q i) := by
      unfold oc oc3
      by_cases q1 : pv A Q i = 0
      · simp [q1]
      · have : 0 < pv A Q i := by omega
        rw [if_neg q1, decide_eq_true this]
        split <;> rfl
    have hnw : nwA A Q (i + 1) = nwA A Q i + b2n (decide (oc A Q i = 110)) := rfl
    rw [hnw, hz]
    show tot (sA (prA A Q i) (Q i).1 (Q i).2.1 (Q i).2.2) = _
    rw [decide_eq_true h3] at ht
    cases hd : decide (0 < pv A Q i) <;> rw [hd] at ht <;> simp only [b2n, Bool.not_true, Bool.not_false, Bool.false_eq_true, if_true, if_false] at ht ⊢ <;> omega
/-- the days when the first i reports are counted -/
def prD (A D : AF) (Q : QF) (y : Nat) : Nat → AF
  | 0 => D
  | i + 1 => if pv A Q i = (Q i).2.2 then prD A D Q y i else sA (prD A D Q y i) (Q i).1 (Q i).2.1 y
def dpN (A : AF) (Q : QF) (n : Nat) : Nat := sumN (fun j => b2n (decide (oc A Q j = 100))) n
def coN (A : AF) (Q : QF) (n : Nat) : Nat := sumN (fun j => b2n (decide (oc A Q j = 99))) n
theorem dpN_le (A : AF) (Q : QF) (n : Nat) : dpN A Q n ≤ n := by
  have := sumN_bd (f := fun j => b2n (decide (oc A Q j = 100))) (n := n) (b := 1) (fun i _ => by unfold b2n; split <;> omega)
  unfold dpN
  omega
theorem coN_le (A : AF) (Q : QF) (n : Nat) : coN A Q n ≤ n := by
  have := sumN_bd (f := fun j => b2n (decide (oc A Q j = 99))) (n := n) (b := 1) (fun i _ => by unfold b2n; split <;> omega)
  unfold coN
  omega
def clB (b : Bk) : Bk := (prA (kA b) (kQ b) (kN b), prD (kA b) (kD b) (kQ b) (kY b) (kN b), 0, kQ b, kT b, (fun i => if i = 0 then kU b 0 + dpN (kA b) (kQ b) (kN b) else if i = 1 then kU b 1 + coN (kA b) (kQ b) (kN b) else if i = 2 then kU b 2 + nwA (kA b) (kQ b) (kN b) else if i = 4 then kU b 4 + 1 else kU b i), kY b + 1)
def rjB (b : Bk) : Bk := (kA b, kD b, 0, kQ b, kT b, (fun i => if i = 5 then kU b 5 + 1 else kU b i), kY b + 1)
section BC
variable {h : Hp} {B : Nat} {b : Bk}
theorem openNext_ok (S : BkS h B) {y : Nat} (hy : HI h B 4 = nI y) : CL 46 [.ref B] h = some (.ok .null, wI h (u2 (u2 (HI h) (B + 11) 3 (nI 0)) B 4 (nI (y + 1)))) := by
  rw [e46]
  simp (disch := omega) only [S.f, S.ck, w2_ne, hy, cond_true, cond_false, bI_ok, bI_er, bV_ok, bV_er, bR_ok, bR_er, bD_ok, bD_er, bF_ok, bF_er, thr_ap, cl_nI, lt_nI, le_nI, eq_nI, m1_lt, nI_m1, m1_nI, nI_lt_m1, add_nI, sub_nI, addm_nI, z_addm, z_subm, mul_nI, fit1_0, fit1_1, fit2_n, HI_wI, HK_wI, HL_wI, HR_wI, ckK_wI, chI_wI, sI_wI, wI_wI, lz0, lz1, lz2, lz3, lz4, lz5, lz6, lz7, lz8, lz9, lz10, lz12, lz13, lz16, lz17, lz20, lz21, lz23, lz26, lz30, lz32, lz35, lz40, lz45, lz48, lz57, lz58, lz59, lz60, lz61, lz63, lz64, lz97, lz99, lz100, lz110, lz111, lz126, lz129, lz132, lz133, lz166, lz169, lz255, lz999, lz1183, lz1800, Nat.reduceAdd, Nat.reduceLT, Nat.reduceEqDiff, Nat.not_lt_zero, Nat.lt_irrefl, ↓reduceIte, Nat.zero_add, Nat.add_zero, ne_eq, not_true_eq_false, not_false_eq_true, reduceCtorEq]
theorem forget_ok (S : BkS h B) (R : RK (HI h) B b) : ∃ f', CL 48 [.ref B] h = some (.ok (.int (nI (kN b))), wI h f') ∧ RK f' B (rjB b) ∧ Fr B (B + 17) (HI h) f' := by
  have ho := openNext_ok (S.wI (u2 (HI h) (B + 16) 5 (nI (kU b 5 + 1)))) (y := kY b) ((w2_ne (by omega)).trans R.y)
  rw [HI_wI, wI_wI] at ho
  have hF : Fr B (B + 17) (HI h) (u2 (u2 (u2 (HI h) (B + 16) 5 (nI (kU b 5 + 1))) (B + 11) 3 (nI 0)) B 4 (nI (kY b + 1))) := ((Fr.rf.u2 (by omega) (by omega)).u2 (by omega) (by omega)).u2 (by omega) (by omega)
  refine ⟨_, ?_, ?_, hF⟩
  · rw [e48]
    simp (disch := omega) only [S.f, S.ck, S.tt, R.tt (show 5 < 7 by decide), R.q.z, ho, cond_true, cond_false, bI_ok, bI_er, bV_ok, bV_er, bR_ok, bR_er, bD_ok, bD_er, bF_ok, bF_er, thr_ap, cl_nI, lt_nI, le_nI, eq_nI, m1_lt, nI_m1, m1_nI, nI_lt_m1, add_nI, sub_nI, addm_nI, z_addm, z_subm, mul_nI, fit1_0, fit1_1, fit2_n, HI_wI, HK_wI, HL_wI, HR_wI, ckK_wI, chI_wI, sI_wI, wI_wI, lz0, lz1, lz2, lz3, lz4, lz5, lz6, lz7, lz8, lz9, lz10, lz12, lz13, lz16, lz17, lz20, lz21, lz23, lz26, lz30, lz32, lz35, lz40, lz45, lz48, lz57, lz58, lz59, lz60, lz61, lz63, lz64, lz97, lz99, lz100, lz110, lz111, lz126, lz129, lz132, lz133, lz166, lz169, lz255, lz999, lz1183, lz1800, Nat.reduceAdd, Nat.reduceLT, Nat.reduceEqDiff, Nat.not_lt_zero, Nat.lt_irrefl, ↓reduceIte, Nat.zero_add, Nat.add_zero, ne_eq, not_true_eq_false, not_false_eq_true, reduceCtorEq]
  · refine ⟨R.t.cong (fun i x hi => ?_), RB.nil ?_, fun s hs => ?_, fun i hi => ?_, w2_eq _ _ _ _⟩
    · rw [w2_ne (by omega), w2_ne (by omega), w2_ne (by omega)]
    · rw [w2_ne (by omega), w2_eq]
    · rw [w2_ne (by omega), w2_ne (by omega), w2_ne (by omega)]
      exact R.tr hs
    · rw [w2_ne (by omega), w2_ne (by omega)]
      show _ = nI (if i = 5 then kU b 5 + 1 else kU b i)
      by_cases q : i = 5
      · subst q
        rw [w2_eq, if_pos rfl]
      · rw [w2_ne (by omega), if_neg q]
        exact R.tt hi
theorem count_ok (S : BkS h B) (R : RK (HI h) B b) {y : Nat} (hB : Bd b y) (hy : y < 1000000000) (hroom : tot (kA b) + nwA (kA b) (kQ b) (kN b) ≤ 30) : ∃ f', CL 47 [.ref B] h = some (.ok (.int (nI (nwA (kA b) (kQ b) (kN b)))), wI h f') ∧ RK f' B (clB b) ∧ Fr B (B + 17) (HI h) f' := by
  have n12 := R.q.1
  have hqb : ∀ i, i < kN b → (kQ b i).1 < 3 ∧ (kQ b i).2.1 < 1000 ∧ 0 < (kQ b i).2.2 := fun i hi => ⟨(R.q.b hi).1, (R.q.b hi).2.1, (R.q.b hi).2.2.1⟩
  have u0 := hB.1 0 (by decide)
  have u1 := hB.1 1 (by decide)
  have uy := hB.2
  rw [e47]
  simp only [lz0]
  obtain ⟨⟨v, g⟩, hg1, hg2, hg3, hg4, hg5⟩ := lpEx (β := Value × (Nat → Nat → Int32)) (n := kN b) (x0 := (Value.null, HI h)) (F := fun i x => RF 47 4 [.ref B, .int (nI (nwA (kA b) (kQ b) i)), .int (nI i), x.1] [] (wI h x.2)) (P := fun i x => RT x.2 (B + 1) (prA (kA b) (kQ b) i) (prD (kA b) (kD b) (kQ b) (kY b) i) ∧ x.2 (B + 16) 0 = nI (kU b 0 + dpN (kA b) (kQ b) i) ∧ x.2 (B + 16) 1 = nI (kU b 1 + coN (kA b) (kQ b) i) ∧ ∀ a k, ¬(B + 1 ≤ a ∧ a < B + 11) → ¬(a = B + 16 ∧ k < 2) → x.2 a k = HI h a k) ⟨R.t, R.tt (show 0 < 7 by decide), R.tt (show 1 < 7 by decide), fun _ _ _ _ => rfl⟩ (fun i x hi hP => by
    obtain ⟨v, g⟩ := x
    obtain ⟨p1, p2, p3, p4⟩ := hP
    dsimp only at p1 p2 p3 p4 ⊢
    have hb := R.q.b hi
    have Rq : RB g (B + 11) (kN b) (kQ b) := R.q.cong (fun j x hj => p4 _ _ (by omega) (by omega))
    have ho := outcome_ok (S.wI g) (A := prA (kA b) (kQ b) i) (D := prD (kA b) (kD b) (kQ b) (kY b) i) p1 Rq hi
    have hoc : oc (prA (kA b) (kQ b) i) (kQ b) i = oc (kA b) (kQ b) i := by
      unfold oc
      rw [pv_now]
    rw [hoc] at ho
    have hol := oc_lt (kA b) (kQ b) i
    have hdn : dpN (kA b) (kQ b) (i + 1) = dpN (kA b) (kQ b) i + b2n (decide (oc (kA b) (kQ b) i = 100)) := rfl
    have hcn : coN (kA b) (kQ b) (i + 1) = coN (kA b) (kQ b) i + b2n (decide (oc (kA b) (kQ b) i = 99)) := rfl
    have hnn : nwA (kA b) (kQ b) (i + 1) = nwA (kA b) (kQ b) i + b2n (decide (oc (kA b) (kQ b) i = 110)) := rfl
    have hy4 : g B 4 = nI (kY b) := (p4 _ _ (by omega) (by omega)).trans R.y
    have hpv := pv_prA (kA b) (kQ b) i
    have hpA : prA (kA b) (kQ b) (i + 1) = sA (prA (kA b) (kQ b) i) (kQ b i).1 (kQ b i).2.1 (kQ b i).2.2 := rfl
    have hpD : prD (kA b) (kD b) (kQ b) (kY b) (i + 1) = if pv (kA b) (kQ b) i = (kQ b i).2.2 then prD (kA b) (kD b) (kQ b) (kY b) i else sA (prD (kA b) (kD b) (kQ b) (kY b) i) (kQ b i).1 (kQ b i).2.1 (kY b) := rfl
    have htot := tot_prA (A := kA b) hqb (i + 1) (by omega)
    have hmono : nwA (kA b) (kQ b) (i + 1) ≤ nwA (kA b) (kQ b) (kN b) := sumN_mono hi
    rw [hpA] at htot
    by_cases q1 : pv (kA b) (kQ b) i = 0
    · have hoc3 : oc (kA b) (kQ b) i = 110 := if_pos q1
      have hqn : ¬(pv (kA b) (kQ b) i = (kQ b i).2.2) := by omega
      obtain ⟨f', hf1, hf2, hf3⟩ := put_ok (S.wI g).t p1 (s := (kQ b i).1) (k := (kQ b i).2.1) (a := (kQ b i).2.2) (d := kY b) hb.1 hb.2.1 hb.2.2.1 hb.2.2.2 (by omega) (by omega)
      rw [hoc3] at ho hdn hcn hnn
      rw [wI_wI] at hf1
      refine ⟨(.int (nI 110), f'), ?_, ?_, ?_, ?_, ?_⟩
      · rw [e47_4, hnn]
        simp (disch := omega) only [S.f, S.ck, S.bt.f, S.bt.r (show i < 12 by omega), Rq.z, Rq.q hi, hi, ho, hy4, hf1, b2n, decide_true, cond_true, cond_false, bI_ok, bI_er, bV_ok, bV_er, bR_ok, bR_er, bD_ok, bD_er, bF_ok, bF_er, thr_ap, cl_nI, lt_nI, le_nI, eq_nI, m1_lt, nI_m1, m1_nI, nI_lt_m1, add_nI, sub_nI, addm_nI, z_addm, z_subm, mul_nI, fit1_0, fit1_1, fit2_n, HI_wI, HK_wI, HL_wI, HR_wI, ckK_wI, chI_wI, sI_wI, wI_wI, lz0, lz1, lz2, lz3, lz4, lz5, lz6, lz7, lz8, lz9, lz10, lz12, lz13, lz16, lz17, lz20, lz21, lz23, lz26, lz30, lz32, lz35, lz40, lz45, lz48, lz57, lz58, lz59, lz60, lz61, lz63, lz64, lz97, lz99, lz100, lz110, lz111, lz126, lz129, lz132, lz133, lz166, lz169, lz255, lz999, lz1183, lz1800, Nat.reduceAdd, Nat.reduceLT, Nat.reduceEqDiff, Nat.not_lt_zero, Nat.lt_irrefl, ↓reduceIte, Nat.zero_add, Nat.add_zero, ne_eq, not_true_eq_false, not_false_eq_true, reduceCtorEq]
      · rw [hpA, hpD, if_neg hqn]
        exact hf2
      · refine (hf3 (B + 16) 0 (by omega)).trans ?_
        rw [hdn]
        exact p2
      · refine (hf3 (B + 16) 1 (by omega)).trans ?_
        rw [hcn]
        exact p3
      · intro a k h1 h2
        exact (hf3 a k (by omega)).trans (p4 a k h1 h2)
    · by_cases q2 : pv (kA b) (kQ b) i = (kQ b i).2.2
      · have hoc3 : oc (kA b) (kQ b) i = 100 := by
          unfold oc oc3
          rw [if_neg q1, if_pos q2]
        have hd2 := dpN_le (kA b) (kQ b) i
        rw [hoc3] at ho hdn hcn hnn
        refine ⟨(.int (nI 100), u2 g (B + 16) 0 (nI (kU b 0 + dpN (kA b) (kQ b) i + 1))), ?_, ?_, ?_, ?_, ?_⟩
        · rw [e47_4, hnn]
          simp (disch := omega) only [S.f, S.ck, S.tt (show 0 < 7 by decide), Rq.z, Rq.q hi, hi, ho, p2, b2n, decide_false, Bool.false_eq_true, Nat.reduceEqDiff, cond_true, cond_false, bI_ok, bI_er, bV_ok, bV_er, bR_ok, bR_er, bD_ok, bD_er, bF_ok, bF_er, thr_ap, cl_nI, lt_nI, le_nI, eq_nI, m1_lt, nI_m1, m1_nI, nI_lt_m1, add_nI, sub_nI, addm_nI, z_addm, z_subm, mul_nI, fit1_0, fit1_1, fit2_n, HI_wI, HK_wI, HL_wI, HR_wI, ckK_wI, chI_wI, sI_wI, wI_wI, lz0, lz1, lz2, lz3, lz4, lz5, lz6, lz7, lz8, lz9, lz10, lz12, lz13, lz16, lz17, lz20, lz21, lz23, lz26, lz30, lz32, lz35, lz40, lz45, lz48, lz57, lz58, lz59, lz60, lz61, lz63, lz64, lz97, lz99, lz100, lz110, lz111, lz126, lz129, lz132, lz133, lz166, lz169, lz255, lz999, lz1183, lz1800, Nat.reduceAdd, Nat.reduceLT, Nat.reduceEqDiff, Nat.not_lt_zero, Nat.lt_irrefl, ↓reduceIte, Nat.zero_add, Nat.add_zero, ne_eq, not_true_eq_false, not_false_eq_true, reduceCtorEq]
        · rw [hpA, hpD, if_pos q2, sA_self (by rw [← hpv, q2])]
          exact p1.cong (fun j x hj => w2_ne (by omega))
        · dsimp only
          rw [w2_eq, hdn]
          rfl
        · dsimp only
          rw [w2_ne (by omega), hcn]
          exact p3
        · intro a k h1 h2
          dsimp only
          rw [w2_ne (by omega)]
          exact p4 a k h1 h2
      · have hoc3 : oc (kA b) (kQ b) i = 99 := by
          unfold oc oc3
          rw [if_neg q1, if_neg q2]
        have hd2 := coN_le (kA b) (kQ b) i
        rw [hoc3] at ho hdn hcn hnn
        have p1' : RT (u2 g (B + 16) 1 (nI (kU b 1 + coN (kA b) (kQ b) i + 1))) (B + 1) (prA (kA b) (kQ b) i) (prD (kA b) (kD b) (kQ b) (kY b) i) := p1.cong (fun j x hj => w2_ne (by omega))
        obtain ⟨f', hf1, hf2, hf3⟩ := put_ok (S.wI (u2 g (B + 16) 1 (nI (kU b 1 + coN (kA b) (kQ b) i + 1)))).t p1' (s := (kQ b i).1) (k := (kQ b i).2.1) (a := (kQ b i).2.2) (d := kY b) hb.1 hb.2.1 hb.2.2.1 hb.2.2.2 (by omega) (by omega)
        rw [wI_wI] at hf1
        refine ⟨(.int (nI 99), f'), ?_, ?_, ?_, ?_, ?_⟩
        · rw [e47_4, hnn]
          simp (disch := omega) only [S.f, S.ck, S.bt.f, S.bt.r (show i < 12 by omega), S.tt (show 1 < 7 by decide), Rq.z, Rq.q hi, hi, ho, hy4, p3, w2_ne, hf1, b2n, decide_false, Bool.false_eq_true, cond_true, cond_false, bI_ok, bI_er, bV_ok, bV_er, bR_ok, bR_er, bD_ok, bD_er, bF_ok, bF_er, thr_ap, cl_nI, lt_nI, le_nI, eq_nI, m1_lt, nI_m1, m1_nI, nI_lt_m1, add_nI, sub_nI, addm_nI, z_addm, z_subm, mul_nI, fit1_0, fit1_1, fit2_n, HI_wI, HK_wI, HL_wI, HR_wI, ckK_wI, chI_wI, sI_wI, wI_wI, lz0, lz1, lz2, lz3, lz4, lz5, lz6, lz7, lz8, lz9, lz10, lz12, lz13, lz16, lz17, lz20, lz21, lz23, lz26, lz30, lz32, lz35, lz40, lz45, lz48, lz57, lz58, lz59, lz60, lz61, lz63, lz64, lz97, lz99, lz100, lz110, lz111, lz126, lz129, lz132, lz133, lz166, lz169, lz255, lz999, lz1183, lz1800, Nat.reduceAdd, Nat.reduceLT, Nat.reduceEqDiff, Nat.not_lt_zero, Nat.lt_irrefl, ↓reduceIte, Nat.zero_add, Nat.add_zero, ne_eq, not_true_eq_false, not_false_eq_true, reduceCtorEq]
        · rw [hpA, hpD, if_neg q2]
          exact hf2
        · refine (hf3 (B + 16) 0 (by omega)).trans ?_
          rw [hdn, HI_wI, w2_ne (by omega)]
          exact p2
        · refine (hf3 (B + 16) 1 (by omega)).trans ?_
          rw [hcn, HI_wI, w2_eq]
          rfl
        · intro a k h1 h2
          refine (hf3 a k (by omega)).trans ?_
          rw [HI_wI, w2_ne (by omega)]
          exact p4 a k h1 h2)
  dsimp only at hg1 hg2 hg3 hg4 hg5
  refine ⟨u2 (u2 (u2 (u2 g (B + 16) 2 (nI (kU b 2 + nwA (kA b) (kQ b) (kN b)))) (B + 16) 4 (nI (kU b 4 + 1))) (B + 11) 3 (nI 0)) B 4 (nI (kY b + 1)), ?_, ?_, ?_⟩
  · refine hg1.trans ?_
    have hz : g (B + 11) 3 = nI (kN b) := (hg5 _ _ (by omega) (by omega)).trans R.q.z
    have h2 : g (B + 16) 2 = nI (kU b 2) := (hg5 _ _ (by omega) (by omega)).trans (R.tt (by decide))
    have h4 : g (B + 16) 4 = nI (kU b 4) := (hg5 _ _ (by omega) (by omega)).trans (R.tt (by decide))
    have ho := openNext_ok (S.wI (u2 (u2 g (B + 16) 2 (nI (kU b 2 + nwA (kA b) (kQ b) (kN b)))) (B + 16) 4 (nI (kU b 4 + 1)))) (y := kY b) ((w2_ne (by omega)).trans ((w2_ne (by omega)).trans ((hg5 _ _ (by omega) (by omega)).trans R.y)))
    rw [HI_wI, wI_wI] at ho
    rw [e47_4]
    simp (disch := omega) only [S.f, S.ck, S.tt (show 2 < 7 by decide), S.tt (show 4 < 7 by decide), hz, h2, h4, w2_ne, ho, cond_true, cond_false, bI_ok, bI_er, bV_ok, bV_er, bR_ok, bR_er, bD_ok, bD_er, bF_ok, bF_er, thr_ap, cl_nI, lt_nI, le_nI, eq_nI, m1_lt, nI_m1, m1_nI, nI_lt_m1, add_nI, sub_nI, addm_nI, z_addm, z_subm, mul_nI, fit1_0, fit1_1, fit2_n, HI_wI, HK_wI, HL_wI, HR_wI, ckK_wI, chI_wI, sI_wI, wI_wI, lz0, lz1, lz2, lz3, lz4, lz5, lz6, lz7, lz8, lz9, lz10, lz12, lz13, lz16, lz17, lz20, lz21, lz23, lz26, lz30, lz32, lz35, lz40, lz45, lz48, lz57, lz58, lz59, lz60, lz61, lz63, lz64, lz97, lz99, lz100, lz110, lz111, lz126, lz129, lz132, lz133, lz166, lz169, lz255, lz999, lz1183, lz1800, Nat.reduceAdd, Nat.reduceLT, Nat.reduceEqDiff, Nat.not_lt_zero, Nat.lt_irrefl, ↓reduceIte, Nat.zero_add, Nat.add_zero, ne_eq, not_true_eq_false, not_false_eq_true, reduceCtorEq]
  · refine ⟨hg2.cong (fun i x hi => ?_), RB.nil ?_, fun s hs => ?_, fun i hi => ?_, w2_eq _ _ _ _⟩
    · rw [w2_ne (by omega), w2_ne (by omega), w2_ne (by omega), w2_ne (by omega)]
    · rw [w2_ne (by omega), w2_eq]
    · rw [w2_ne (by omega), w2_ne (by omega), w2_ne (by omega), w2_ne (by omega), hg5 (B + 15) s (by omega) (by omega)]
      exact R.tr hs
    · rw [w2_ne (by omega), w2_ne (by omega)]
      show _ = nI (if i = 0 then kU b 0 + dpN (kA b) (kQ b) (kN b) else if i = 1 then kU b 1 + coN (kA b) (kQ b) (kN b) else if i = 2 then kU b 2 + nwA (kA b) (kQ b) (kN b) else if i = 4 then kU b 4 + 1 else kU b i)
      by_cases q0 : i = 0
      · subst q0
        rw [w2_ne (by omega), w2_ne (by omega), if_pos rfl]
        exact hg3
      · by_cases q1 : i = 1
        · subst q1
          rw [w2_ne (by omega), w2_ne (by omega), if_neg q0, if_pos rfl]
          exact hg4
        · by_cases q2 : i = 2
          · subst q2
            rw [w2_ne (by omega), w2_eq, if_neg q0, if_neg q1, if_pos rfl]
          · by_cases q4 : i = 4
            · subst q4
              rw [w2_eq, if_neg q0, if_neg q1, if_neg q2, if_pos rfl]
            · rw [w2_ne (by omega), w2_ne (by omega), if_neg q0, if_neg q1, if_neg q2, if_neg q4, hg5 (B + 16) i (by omega) (by omega)]
              exact R.tt hi
  · intro a k ha
    rw [w2_ne (by omega), w2_ne (by omega), w2_ne (by omega), w2_ne (by omega)]
    exact hg5 a k (by omega) (by omega)
end BC
