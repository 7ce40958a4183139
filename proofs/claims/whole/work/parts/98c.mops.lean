/-! THE REFERENCE: dropping refused; each change by its number -/
section MC
variable {h : Hp} {b : Bk}
theorem drops_f (S : MdS h) (R : RN (HI h 242) b) (x y : Int32) (hbad : (inr 97 99 x && inr 0 999 y) = false) : CL 239 [.ref 241, .int x, .int y] h = some (.ok (.int (nI 0)), wI h (u2 (HI h) 241 16 (nI 1))) := by
  have hi1 := isSource_ok (h := h) x
  have hi2 := isKeyM_ok (h := h) y
  have hf := find_f S R.1 x y (by
    rw [Bool.and_eq_false_iff] at hbad
    exact hbad)
  have hg := holds_ok S false false true
  rw [b2f, b2t, show thN false false true = 1 from rfl, show b2n (decide (1 = 0)) = 0 from rfl] at hg
  rw [e239]
  cases q1 : inr 97 99 x with
  | false =>
    rw [q1, b2f] at hi1
    simp (disch := omega) only [S.f, hf, hi1, hg, cond_true, cond_false, bI_ok, bI_er, bV_ok, bV_er, bR_ok, bR_er, bD_ok, bD_er, bF_ok, bF_er, thr_ap, cl_nI, lt_nI, le_nI, eq_nI, m1_lt, nI_m1, m1_nI, nI_lt_m1, add_nI, sub_nI, addm_nI, z_addm, z_subm, mul_nI, fit1_0, fit1_1, fit2_n, HI_wI, HK_wI, HL_wI, HR_wI, ckK_wI, chI_wI, sI_wI, wI_wI, lz0, lz1, lz2, lz3, lz4, lz5, lz6, lz7, lz8, lz9, lz10, lz12, lz13, lz16, lz17, lz20, lz21, lz23, lz26, lz30, lz32, lz35, lz40, lz45, lz48, lz57, lz58, lz59, lz60, lz61, lz63, lz64, lz97, lz99, lz100, lz110, lz111, lz126, lz129, lz132, lz133, lz166, lz169, lz255, lz999, lz1183, lz1800, Nat.reduceAdd, Nat.reduceLT, Nat.reduceEqDiff, Nat.not_lt_zero, Nat.lt_irrefl, ↓reduceIte, Nat.zero_add, Nat.add_zero, ne_eq, not_true_eq_false, not_false_eq_true, reduceCtorEq]
  | true =>
    rw [q1, Bool.true_and] at hbad
    rw [q1, b2t] at hi1
    rw [hbad, b2f] at hi2
    simp (disch := omega) only [S.f, hf, hi1, hi2, hg, Nat.succ_ne_self, cond_true, cond_false, bI_ok, bI_er, bV_ok, bV_er, bR_ok, bR_er, bD_ok, bD_er, bF_ok, bF_er, thr_ap, cl_nI, lt_nI, le_nI, eq_nI, m1_lt, nI_m1, m1_nI, nI_lt_m1, add_nI, sub_nI, addm_nI, z_addm, z_subm, mul_nI, fit1_0, fit1_1, fit2_n, HI_wI, HK_wI, HL_wI, HR_wI, ckK_wI, chI_wI, sI_wI, wI_wI, lz0, lz1, lz2, lz3, lz4, lz5, lz6, lz7, lz8, lz9, lz10, lz12, lz13, lz16, lz17, lz20, lz21, lz23, lz26, lz30, lz32, lz35, lz40, lz45, lz48, lz57, lz58, lz59, lz60, lz61, lz63, lz64, lz97, lz99, lz100, lz110, lz111, lz126, lz129, lz132, lz133, lz166, lz169, lz255, lz999, lz1183, lz1800, Nat.reduceAdd, Nat.reduceLT, Nat.reduceEqDiff, Nat.not_lt_zero, Nat.lt_irrefl, ↓reduceIte, Nat.zero_add, Nat.add_zero, ne_eq, not_true_eq_false, not_false_eq_true, reduceCtorEq]
theorem drops_n (S : MdS h) (R : RN (HI h 242) b) {s k : Nat} (hs : s < 3) (hk : k < 1000) (h0 : kA b s k = 0) : CL 239 [.ref 241, .int (nI (97 + s)), .int (nI k)] h = some (.ok (.int (nI 0)), wI h (u2 (HI h) 241 16 (nI 2))) := by
  have hi1 := isSource_ok (h := h) (nI (97 + s))
  have hi2 := isKeyM_ok (h := h) (nI k)
  rw [inr_nI (by omega) (by omega) (by decide), b2t] at hi1 hi2
  have hf := find_n S R.1 hs hk h0
  have hg := holds_ok S true false true
  rw [b2f, b2t, show thN true false true = 2 from rfl, show b2n (decide (2 = 0)) = 0 from rfl] at hg
  rw [e239]
  simp (disch := omega) only [S.f, hf, hi1, hi2, hg, Nat.succ_ne_self, cond_true, cond_false, bI_ok, bI_er, bV_ok, bV_er, bR_ok, bR_er, bD_ok, bD_er, bF_ok, bF_er, thr_ap, cl_nI, lt_nI, le_nI, eq_nI, m1_lt, nI_m1, m1_nI, nI_lt_m1, add_nI, sub_nI, addm_nI, z_addm, z_subm, mul_nI, fit1_0, fit1_1, fit2_n, HI_wI, HK_wI, HL_wI, HR_wI, ckK_wI, chI_wI, sI_wI, wI_wI, lz0, lz1, lz2, lz3, lz4, lz5, lz6, lz7, lz8, lz9, lz10, lz12, lz13, lz16, lz17, lz20, lz21, lz23, lz26, lz30, lz32, lz35, lz40, lz45, lz48, lz57, lz58, lz59, lz60, lz61, lz63, lz64, lz97, lz99, lz100, lz110, lz111, lz126, lz129, lz132, lz133, lz166, lz169, lz255, lz999, lz1183, lz1800, Nat.reduceAdd, Nat.reduceLT, Nat.reduceEqDiff, Nat.not_lt_zero, Nat.lt_irrefl, ↓reduceIte, Nat.zero_add, Nat.add_zero, ne_eq, not_true_eq_false, not_false_eq_true, reduceCtorEq]
end MC
/-- the reference's change j -/
noncomputable def opM (j : Nat) (x k a : Int32) : Hp → Res := match j with
  | 0 => CL 211 [.ref 241, .int x, .int k, .int a]
  | 1 => CL 218 [.ref 241, .int x, .int k, .int a]
  | 2 => CL 228 [.ref 241]
  | 3 => CL 230 [.ref 241]
  | 4 => CL 237 [.ref 241, .int x, .int k]
  | 5 => CL 239 [.ref 241, .int x, .int k]
  | _ => CL 242 [.ref 241, .int a]
/-- what it says of a fault -/
def thM (j fl : Nat) : Nat := match j with
  | 0 => if fl = 3 then 2 else fl
  | 2 => if fl = 3 then 1 else fl
  | _ => fl
theorem thM_pos {j fl : Nat} (h : fl ≠ 0) (h4 : fl < 4) : 0 < thM j fl ∧ thM j fl < 4 := by
  unfold thM
  split
  · split <;> omega
  · split <;> omega
  · omega
section MC
variable {h : Hp} {b : Bk}
theorem FM.thr {f : Nat → Nat → Int32} {v : Int32} : FM f (u2 f 241 16 v) := fun _ _ _ q => w2_ne q
theorem opM_bad (S : MdS h) (R : RN (HI h 242) b) {j : Nat} (hj : j = 0 ∨ j = 1 ∨ j = 4 ∨ j = 5) (x k a : Int32) (hbad : inr 97 99 x = false ∨ inr 0 999 k = false) : ∃ v f', opM j x k a h = some (.ok (.int v), wI h f') ∧ f' 241 16 = nI 1 ∧ FM (HI h) f' := by
  have hb : (inr 97 99 x && inr 0 999 k) = false := by
    rw [Bool.and_eq_false_iff]
    exact hbad
  have hb3 : (inr 97 99 x && inr 0 999 k && inr 1 99 a) = false := by rw [hb, Bool.false_and]
  rcases hj with rfl | rfl | rfl | rfl
  · have := reports_f S R x k a (.inl hb3)
    rw [hb3] at this
    exact ⟨_, _, this, w2_eq _ _ _ _, FM.thr⟩
  · have := takes_f S R x k a (.inl hb3)
    rw [hb3] at this
    exact ⟨_, _, this, w2_eq _ _ _ _, FM.thr⟩
  · exact ⟨_, _, settles_f S R x k hb, w2_eq _ _ _ _, FM.thr⟩
  · exact ⟨_, _, drops_f S R x k hb, w2_eq _ _ _ _, FM.thr⟩
theorem opM_flt (S : MdS h) (R : RN (HI h 242) b) {j s k : Nat} (hj : j < 7) (hs : s < 3) (hk : k < 1000) (a : Int32) (hf : flB b j s k a ≠ 0) : ∃ v f', opM j (nI (97 + s)) (nI k) a h = some (.ok (.int v), wI h f') ∧ f' 241 16 = nI (thM j (flB b j s k a)) ∧ FM (HI h) f' := by
  have i1 : inr 97 99 (nI (97 + s)) = true := inr_nI (by omega) (by omega) (by decide)
  have i2 : inr 0 999 (nI k) = true := inr_nI (by omega) (by omega) (by decide)
  have hj' : j = 0 ∨ j = 1 ∨ j = 2 ∨ j = 3 ∨ j = 4 ∨ j = 5 ∨ j = 6 := by omega
  rcases hj' with rfl | rfl | rfl | rfl | rfl | rfl | rfl
  · have hf : (if inr 1 99 a then (if kN b < 12 then 0 else 3) else 1) ≠ 0 := hf
    show ∃ v f', CL 211 [.ref 241, .int (nI (97 + s)), .int (nI k), .int a] h = some (.ok (.int v), wI h f') ∧ f' 241 16 = nI (thM 0 (if inr 1 99 a then (if kN b < 12 then 0 else 3) else 1)) ∧ FM (HI h) f'
    cases ha : inr 1 99 a with
    | false =>
      have := reports_f S R (nI (97 + s)) (nI k) a (.inl (by rw [ha, Bool.and_false]))
      rw [ha, Bool.and_false] at this
      exact ⟨_, _, this, w2_eq _ _ _ _, FM.thr⟩
    | true =>
      rw [ha, if_pos rfl] at hf
      have hn : ¬(kN b < 12) := fun q => hf (if_pos q)
      have := reports_f S R (nI (97 + s)) (nI k) a (.inr hn)
      rw [i1, i2, ha] at this
      rw [if_neg hn]
      exact ⟨_, _, this, w2_eq _ _ _ _, FM.thr⟩
  · have hf : (if inr 1 99 a then (match la? (isQ (kQ b) s k a.toNatClampNeg) (kN b) with
      | some _ => 0
      | none => 2) else 1) ≠ 0 := hf
    show ∃ v f', CL 218 [.ref 241, .int (nI (97 + s)), .int (nI k), .int a] h = some (.ok (.int v), wI h f') ∧ f' 241 16 = nI (thM 1 (if inr 1 99 a then (match la? (isQ (kQ b) s k a.toNatClampNeg) (kN b) with
      | some _ => 0
      | none => 2) else 1)) ∧ FM (HI h) f'
    cases ha : inr 1 99 a with
    | false =>
      have := takes_f S R (nI (97 + s)) (nI k) a (.inl (by rw [ha, Bool.and_false]))
      rw [ha, Bool.and_false] at this
      exact ⟨_, _, this, w2_eq _ _ _ _, FM.thr⟩
    | true =>
      obtain ⟨i, h1, h2, rfl⟩ := inr_t (by decide) (by decide) ha
      rw [ha, if_pos rfl] at hf
      rw [cl_nI (by omega)] at hf ⊢
      cases hq : la? (isQ (kQ b) s k i) (kN b) with
      | some p =>
        rw [hq] at hf
        exact absurd rfl hf
      | none =>
        have hla := takes_la (n := kN b) (Q := kQ b) (s := s) (k := k) (a := i) (fun q hq => ⟨(R.q.2.2 q hq).2.2.2.1, (R.q.2.2 q hq).2.2.2.2.1, (R.q.2.2 q hq).2.2.2.2.2.2⟩) hs hk (by omega)
        have := takes_f S R (nI (97 + s)) (nI k) (nI i) (.inr (hla.trans hq))
        rw [i1, i2, ha] at this
        exact ⟨_, _, this, w2_eq _ _ _ _, FM.thr⟩
  · have hf : (if tot (kA b) + nwA (kA b) (kQ b) (kN b) ≤ 30 then 0 else 3) ≠ 0 := hf
    have hr : ¬(tot (kA b) + nwA (kA b) (kQ b) (kN b) ≤ 30) := fun q => hf (if_pos q)
    show ∃ v f', CL 228 [.ref 241] h = some (.ok (.int v), wI h f') ∧ f' 241 16 = nI (thM 2 (if tot (kA b) + nwA (kA b) (kQ b) (kN b) ≤ 30 then 0 else 3)) ∧ FM (HI h) f'
    rw [if_neg hr]
    exact ⟨_, _, closesAll_f S R hr, w2_eq _ _ _ _, FM.thr⟩
  · exact absurd rfl hf
  · have hf : (if kA b s k = 0 then 2 else if stA (kA b) k = 100 then 0 else 3) ≠ 0 := hf
    show ∃ v f', CL 237 [.ref 241, .int (nI (97 + s)), .int (nI k)] h = some (.ok (.int v), wI h f') ∧ f' 241 16 = nI (thM 4 (if kA b s k = 0 then 2 else if stA (kA b) k = 100 then 0 else 3)) ∧ FM (HI h) f'
    by_cases q : kA b s k = 0
    · rw [if_pos q]
      exact ⟨_, _, settles_n S R hs hk q, w2_eq _ _ _ _, FM.thr⟩
    · rw [if_neg q] at hf ⊢
      have q2 : ¬(stA (kA b) k = 100) := fun z => hf (if_pos z)
      rw [if_neg q2]
      exact ⟨_, _, settles_s S R hs hk (by omega) q2, w2_eq _ _ _ _, FM.thr⟩
  · have hf : (if kA b s k = 0 then 2 else 0) ≠ 0 := hf
    show ∃ v f', CL 239 [.ref 241, .int (nI (97 + s)), .int (nI k)] h = some (.ok (.int v), wI h f') ∧ f' 241 16 = nI (thM 5 (if kA b s k = 0 then 2 else 0)) ∧ FM (HI h) f'
    by_cases q : kA b s k = 0
    · rw [if_pos q]
      exact ⟨_, _, drops_n S R hs hk q, w2_eq _ _ _ _, FM.thr⟩
    · exact absurd (if_neg q) hf
  · have hf : (if inr 1 99 a then 0 else 1) ≠ 0 := hf
    show ∃ v f', CL 242 [.ref 241, .int a] h = some (.ok (.int v), wI h f') ∧ f' 241 16 = nI (thM 6 (if inr 1 99 a then 0 else 1)) ∧ FM (HI h) f'
    cases ha : inr 1 99 a with
    | true =>
      rw [ha] at hf
      exact absurd rfl hf
    | false => exact waits_f S R ha
theorem opM_go (S : MdS h) (R : RN (HI h 242) b) {y : Nat} (hB : Bd b y) (hy : y < 1000000000) {j s k : Nat} (hj : j < 7) (hs : s < 3) (hk : k < 1000) (a : Int32) (hf : flB b j s k a = 0) : ∃ f', opM j (nI (97 + s)) (nI k) a h = some (.ok (.int (nI (ansB b j s k a.toNatClampNeg))), wI h f') ∧ RN (f' 242) (effB b j s k a.toNatClampNeg) ∧ f' 241 16 = nI 0 ∧ FM (HI h) f' := by
  have hj' : j = 0 ∨ j = 1 ∨ j = 2 ∨ j = 3 ∨ j = 4 ∨ j = 5 ∨ j = 6 := by omega
  rcases hj' with rfl | rfl | rfl | rfl | rfl | rfl | rfl
  · have hf : (if inr 1 99 a then (if kN b < 12 then 0 else 3) else 1) = 0 := hf
    cases ha : inr 1 99 a with
    | false =>
      rw [ha] at hf
      cases hf
    | true =>
      obtain ⟨i, h1, h2, rfl⟩ := inr_t (by decide) (by decide) ha
      rw [ha, if_pos rfl] at hf
      have hn : kN b < 12 := by
        by_cases q : kN b < 12
        · exact q
        · rw [if_neg q] at hf
          cases hf
      rw [cl_nI (by omega)]
      exact reports_t S R hn hs hk h1 h2
  · have hf : (if inr 1 99 a then (match la? (isQ (kQ b) s k a.toNatClampNeg) (kN b) with
      | some _ => 0
      | none => 2) else 1) = 0 := hf
    cases ha : inr 1 99 a with
    | false =>
      rw [ha] at hf
      cases hf
    | true =>
      obtain ⟨i, h1, h2, rfl⟩ := inr_t (by decide) (by decide) ha
      rw [ha, if_pos rfl] at hf
      rw [cl_nI (by omega)] at hf ⊢
      cases hq : la? (isQ (kQ b) s k i) (kN b) with
      | none =>
        rw [hq] at hf
        cases hf
      | some p =>
        have he : effB b 1 s k i = rmB b p := by
          show rmB b ((la? (isQ (kQ b) s k i) (kN b)).getD 0) = rmB b p
          rw [hq]
          rfl
        rw [he]
        exact takes_t S R hs hk h1 h2 hq
  · have hf : (if tot (kA b) + nwA (kA b) (kQ b) (kN b) ≤ 30 then 0 else 3) = 0 := hf
    have hr : tot (kA b) + nwA (kA b) (kQ b) (kN b) ≤ 30 := by
      by_cases q : tot (kA b) + nwA (kA b) (kQ b) (kN b) ≤ 30
      · exact q
      · rw [if_neg q] at hf
        cases hf
    exact closesAll_t S R hB hy hr
  · exact rejects_ok S R
  · have hf : (if kA b s k = 0 then 2 else if stA (kA b) k = 100 then 0 else 3) = 0 := hf
    by_cases q : kA b s k = 0
    · rw [if_pos q] at hf
      cases hf
    · rw [if_neg q] at hf
      by_cases q2 : stA (kA b) k = 100
      · exact settles_t S R hs hk (by omega) q2
      · rw [if_neg q2] at hf
        cases hf
  · have hf : (if kA b s k = 0 then 2 else 0) = 0 := hf
    by_cases q : kA b s k = 0
    · rw [if_pos q] at hf
      cases hf
    · exact drops_t S R hs hk (by omega)
  · have hf : (if inr 1 99 a then 0 else 1) = 0 := hf
    cases ha : inr 1 99 a with
    | false =>
      rw [ha] at hf
      cases hf
    | true =>
      obtain ⟨i, h1, h2, rfl⟩ := inr_t (by decide) (by decide) ha
      rw [cl_nI (by omega)]
      exact waits_t S R h1 h2
end MC
