/-! THE BOOK CHANGED -/
theorem RT.cong {f g : Nat → Nat → Int32} {t : Nat} {A D : AF} (R : RT f t A D) (h : ∀ i x, i < 10 → g (t + i) x = f (t + i) x) : RT g t A D := by
  have N := R.N
  have i3 : tn g t = tn f t := rd_cg (h 0 3 (by decide))
  have i4 : tm g t = tm f t := rd_cg (h 0 4 (by decide))
  have ik : ∀ x, tk g t x = tk f t x := fun x => rd_cg (h 1 x (by decide))
  have ia : ∀ s, s < 3 → ∀ x, ta g t s x = ta f t s x := fun s hs x => rd_cg (by rw [Nat.add_assoc]; exact h (3 + s) x (by omega))
  have id' : ∀ s, s < 3 → ∀ x, td g t s x = td f t s x := fun s hs x => rd_cg (by rw [Nat.add_assoc]; exact h (7 + s) x (by omega))
  refine ⟨⟨N.1.cg (h 0 3 (by decide)), N.2.1.cg (h 0 4 (by decide)), fun x hx => (N.2.2.1 x hx).cg (h 1 x (by decide)), fun s hs x hx => (N.2.2.2.1 s hs x hx).cg (by rw [Nat.add_assoc]; exact h (3 + s) x (by omega)), fun s hs x hx => (N.2.2.2.2 s hs x hx).cg (by rw [Nat.add_assoc]; exact h (7 + s) x (by omega))⟩, ?_, ?_, ?_, ?_, ?_⟩
  · intro r r' h1 h2
    rw [ik, ik]
    exact R.lt h1 (by omega)
  · intro r hr
    rw [ia 0 (by decide), ia 1 (by decide), ia 2 (by decide)]
    exact R.ne (by omega)
  · intro s r hs hr
    rw [ik, ia s hs, id' s hs]
    exact ⟨R.a hs (by omega), R.d hs (by omega)⟩
  · intro s k hs hk hh
    exact R.no hs hk (fun r hr => by rw [← ik]; exact hh r (by omega))
  · rw [i4]
    exact R.m
theorem RT.fr {f g : Nat → Nat → Int32} {t lo hi : Nat} {A D : AF} (R : RT f t A D) (h : Fr lo hi f g) (hd : t + 10 ≤ lo ∨ hi ≤ t) : RT g t A D := R.cong (fun i x hi => h (t + i) x (by omega))
theorem RB.cong {f g : Nat → Nat → Int32} {c n : Nat} {Q : QF} (R : RB f c n Q) (h : ∀ i x, i < 4 → g (c + i) x = f (c + i) x) : RB g c n Q := by
  refine ⟨R.1, (h 0 3 (by decide)).trans R.2.1, fun i hi => ?_⟩
  rw [h 1 i (by decide), h 2 i (by decide), h 3 i (by decide)]
  exact R.2.2 i hi
theorem RB.fr {f g : Nat → Nat → Int32} {c n lo hi : Nat} {Q : QF} (R : RB f c n Q) (h : Fr lo hi f g) (hd : c + 4 ≤ lo ∨ hi ≤ c) : RB g c n Q := R.cong (fun i x hi => h (c + i) x (by omega))
theorem RK.fr {f g : Nat → Nat → Int32} {B lo hi : Nat} {b : Bk} (R : RK f B b) (h : Fr lo hi f g) (hd : B + 17 ≤ lo ∨ hi ≤ B) : RK g B b := by
  refine ⟨R.t.fr h (by omega), R.q.fr h (by omega), fun s hs => ?_, fun i hi => ?_, ?_⟩
  · rw [h _ _ (by omega)]
    exact R.tr hs
  · rw [h _ _ (by omega)]
    exact R.tt hi
  · rw [h _ _ (by omega)]
    exact R.y
theorem RB.nil {f : Nat → Nat → Int32} {c : Nat} {Q : QF} (h : f c 3 = nI 0) : RB f c 0 Q := ⟨by decide, h, fun i hi => by omega⟩
theorem tot_prA {A : AF} {Q : QF} {n : Nat} (hq : ∀ i, i < n → (Q i).1 < 3 ∧ (Q i).2.1 < 1000 ∧ 0 < (Q i).2.2) : ∀ i, i ≤ n → tot (prA A Q i) = tot A + nwA A Q i := by
  intro i
  induction i with
  | zero => exact fun _ => (Nat.add_zero (tot A)).symm
  | succ i ih =>
    intro hi
    have ih := ih (by omega)
    obtain ⟨h1, h2, h3⟩ := hq i (by omega)
    have ht := tot_sA (prA A Q i) (v := (Q i).2.2) h1 h2
    rw [← pv_prA] at ht
    have hz : decide (oc A Q i = 110) = !decide (0 < pv A Q i) := by
      unfold oc oc3
      by_cases q1 : pv A Q i = 0
      · simp [q1]
      · have : 0 < pv A Q i := by omega
        rw [if_neg q1, decide_eq_true this]
        split <;> rfl
    have hnw : nwA A Q (i + 1) = nwA A Q i + b2n (decide (oc A Q i = 110)) := rfl
    rw [hnw, hz]
    show tot (sA (prA A Q i) (Q i).1 (Q i).2.1 (Q i).2.2) = _
    rw [decide_eq_true h3] at ht
    cases hd : decide (0 < pv A Q i) <;> rw [hd] at ht <;> simp only [b2n, Bool.not_true, Bool.not_false, Bool.false_eq_true, if_true, if_false] at ht ⊢ <;> omega
/-- the days when the first i reports are counted -/
def prD (A D : AF) (Q : QF) (y : Nat) : Nat → AF
  | 0 => D
  | i + 1 => if pv A Q i = (Q i).2.2 then prD A D Q y i else sA (prD A D Q y i) (Q i).1 (Q i).2.1 y
def dpN (A : AF) (Q : QF) (n : Nat) : Nat := sumN (fun j => b2n (decide (oc A Q j = 100))) n
def coN (A : AF) (Q : QF) (n : Nat) : Nat := sumN (fun j => b2n (decide (oc A Q j = 99))) n
theorem dpN_le (A : AF) (Q : QF) (n : Nat) : dpN A Q n ≤ n := by
  have := sumN_bd (f := fun j => b2n (decide (oc A Q j = 100))) (n := n) (b := 1) (fun i _ => by unfold b2n; split <;> omega)
  unfold dpN
  omega
theorem coN_le (A : AF) (Q : QF) (n : Nat) : coN A Q n ≤ n := by
  have := sumN_bd (f := fun j => b2n (decide (oc A Q j = 99))) (n := n) (b := 1) (fun i _ => by unfold b2n; split <;> omega)
  unfold coN
  omega
def clB (b : Bk) : Bk := (prA (kA b) (kQ b) (kN b), prD (kA b) (kD b) (kQ b) (kY b) (kN b), 0, kQ b, kT b, (fun i => if i = 0 then kU b 0 + dpN (kA b) (kQ b) (kN b) else if i = 1 then kU b 1 + coN (kA b) (kQ b) (kN b) else if i = 2 then kU b 2 + nwA (kA b) (kQ b) (kN b) else if i = 4 then kU b 4 + 1 else kU b i), kY b + 1)
def rjB (b : Bk) : Bk := (kA b, kD b, 0, kQ b, kT b, (fun i => if i = 5 then kU b 5 + 1 else kU b i), kY b + 1)
section BC
variable {h : Hp} {B : Nat} {b : Bk}
theorem openNext_ok (S : BkS h B) {y : Nat} (hy : HI h B 4 = nI y) : CL 46 [.ref B] h = some (.ok .null, wI h (u2 (u2 (HI h) (B + 11) 3 (nI 0)) B 4 (nI (y + 1)))) := by
  rw [e46]
  simp (disch := omega) only [S.f, S.ck, w2_ne, hy, cond_true, cond_false, bI_ok, bI_er, bV_ok, bV_er, bR_ok, bR_er, bD_ok, bD_er, bF_ok, bF_er, thr_ap, cl_nI, lt_nI, le_nI, eq_nI, m1_lt, nI_m1, m1_nI, nI_lt_m1, add_nI, sub_nI, addm_nI, z_addm, z_subm, mul_nI, fit1_0, fit1_1, fit2_n, HI_wI, HK_wI, HL_wI, HR_wI, ckK_wI, chI_wI, sI_wI, wI_wI, lz0, lz1, lz2, lz3, lz4, lz5, lz6, lz7, lz8, lz9, lz10, lz12, lz13, lz16, lz17, lz20, lz21, lz23, lz26, lz30, lz32, lz35, lz40, lz45, lz48, lz57, lz58, lz59, lz60, lz61, lz63, lz64, lz97, lz99, lz100, lz110, lz111, lz126, lz129, lz132, lz133, lz166, lz169, lz255, lz999, lz1183, lz1800, Nat.reduceAdd, Nat.reduceLT, Nat.reduceEqDiff, Nat.not_lt_zero, Nat.lt_irrefl, ↓reduceIte, Nat.zero_add, Nat.add_zero, ne_eq, not_true_eq_false, not_false_eq_true, reduceCtorEq]
theorem forget_ok (S : BkS h B) (R : RK (HI h) B b) : ∃ f', CL 48 [.ref B] h = some (.ok (.int (nI (kN b))), wI h f') ∧ RK f' B (rjB b) ∧ Fr B (B + 17) (HI h) f' := by
  have ho := openNext_ok (S.wI (u2 (HI h) (B + 16) 5 (nI (kU b 5 + 1)))) (y := kY b) ((w2_ne (by omega)).trans R.y)
  rw [HI_wI, wI_wI] at ho
  have hF : Fr B (B + 17) (HI h) (u2 (u2 (u2 (HI h) (B + 16) 5 (nI (kU b 5 + 1))) (B + 11) 3 (nI 0)) B 4 (nI (kY b + 1))) := ((Fr.rf.u2 (by omega) (by omega)).u2 (by omega) (by omega)).u2 (by omega) (by omega)
  refine ⟨_, ?_, ?_, hF⟩
  · rw [e48]
    simp (disch := omega) only [S.f, S.ck, S.tt, R.tt (show 5 < 7 by decide), R.q.z, ho, cond_true, cond_false, bI_ok, bI_er, bV_ok, bV_er, bR_ok, bR_er, bD_ok, bD_er, bF_ok, bF_er, thr_ap, cl_nI, lt_nI, le_nI, eq_nI, m1_lt, nI_m1, m1_nI, nI_lt_m1, add_nI, sub_nI, addm_nI, z_addm, z_subm, mul_nI, fit1_0, fit1_1, fit2_n, HI_wI, HK_wI, HL_wI, HR_wI, ckK_wI, chI_wI, sI_wI, wI_wI, lz0, lz1, lz2, lz3, lz4, lz5, lz6, lz7, lz8, lz9, lz10, lz12, lz13, lz16, lz17, lz20, lz21, lz23, lz26, lz30, lz32, lz35, lz40, lz45, lz48, lz57, lz58, lz59, lz60, lz61, lz63, lz64, lz97, lz99, lz100, lz110, lz111, lz126, lz129, lz132, lz133, lz166, lz169, lz255, lz999, lz1183, lz1800, Nat.reduceAdd, Nat.reduceLT, Nat.reduceEqDiff, Nat.not_lt_zero, Nat.lt_irrefl, ↓reduceIte, Nat.zero_add, Nat.add_zero, ne_eq, not_true_eq_false, not_false_eq_true, reduceCtorEq]
  · refine ⟨R.t.cong (fun i x hi => ?_), RB.nil ?_, fun s hs => ?_, fun i hi => ?_, w2_eq _ _ _ _⟩
    · rw [w2_ne (by omega), w2_ne (by omega), w2_ne (by omega)]
    · rw [w2_ne (by omega), w2_eq]
    · rw [w2_ne (by omega), w2_ne (by omega), w2_ne (by omega)]
      exact R.tr hs
    · rw [w2_ne (by omega), w2_ne (by omega)]
      show _ = nI (if i = 5 then kU b 5 + 1 else kU b i)
      by_cases q : i = 5
      · subst q
        rw [w2_eq, if_pos rfl]
      · rw [w2_ne (by omega), if_neg q]
        exact R.tt hi
end BC
