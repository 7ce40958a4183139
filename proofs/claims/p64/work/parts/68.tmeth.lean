/-! THE TABLE'S OWN METHODS THAT CHANGE IT -/
theorem cpOK_ii {h : Hp} {sa da n w : Nat} (h1 : HK h sa = 100) (h2 : HK h da = 100) (hne : sa ≠ da) (h3 : n ≤ HL h sa) (h4 : n ≤ HL h da) (hw : w ≤ 8) (hn : n < 2147483648) : cpOK h sa da (nI 0) (nI 0) (nI n) w = true := by
  unfold cpOK ckK
  rw [h1, h2, cl_nI hn, show (nI 0).toNatClampNeg = 0 from rfl, decide_eq_true hne, decide_eq_true (nI_pos' hn), show decide (0 ≤ nI 0) = true from rfl, Nat.ble_eq_true_of_le hw, Nat.ble_eq_true_of_le (show 0 + n ≤ HL h sa by omega), Nat.ble_eq_true_of_le (show 0 + n ≤ HL h da by omega)]
  rfl
theorem wgt_nil : wgt [] = 0 := rfl
section TM
variable {h : Hp} {t : Nat} {A D : AF}
theorem RT.place {f : Nat → Nat → Int32} (R : RT f t A D) {k : Nat} (hk : ∀ r, r < tn f t → tk f t r ≠ k) : ∃ p, p ≤ tn f t ∧ (∀ r, r < p → tk f t r < k) ∧ ∀ r, p ≤ r → r < tn f t → k < tk f t r := by
  cases hf : fst? (fun r => decide (k < tk f t r)) (tn f t) with
  | some p =>
    obtain ⟨h1, h2, h3⟩ := fst_some.mp hf
    have h2 := of_decide_eq_true h2
    refine ⟨p, by omega, fun r hr => ?_, fun r hr hr2 => ?_⟩
    · have := of_decide_eq_false (h3 r hr)
      have := hk r (by omega)
      omega
    · rcases Nat.lt_or_ge p r with hl | hl
      · have := R.lt hl hr2
        omega
      · have : r = p := by omega
        subst this
        exact h2
  | none =>
    have h1 := fst_none.mp hf
    refine ⟨tn f t, Nat.le_refl _, fun r hr => ?_, fun r hr hr2 => by omega⟩
    have := of_decide_eq_false (h1 r hr)
    have := hk r hr
    omega
theorem put_ok (S : TbS h t) (R : RT (HI h) t A D) {s k a d : Nat} (hs : s < 3) (hk : k < 1000) (ha : 0 < a) (ha2 : a < 100) (hd : d < 1073741824) (hm : tot (sA A s k a) < 31) : ∃ f', CL 45 [.ref t, .int (nI s), .int (nI k), .int (nI a), .int (nI d)] h = some (.ok .null, wI h f') ∧ RT f' t (sA A s k a) (sA D s k d) ∧ Fr t (t + 10) (HI h) f' := by
  have N := R.N
  have n30 := R.n30
  have m30 := N.m30
  have hM := R.m
  have hT := tot_sA A (s := s) (k := k) (v := a) hs hk
  have hrow := rowOf_ok S N hk
  rcases R.cases hk with ⟨r, hr, hrk, hrw⟩ | ⟨hno, hrw, hz0, hz1, hz2⟩
  · rw [hrw] at hrow
    have a9 := N.a9 hs (show r < 30 by omega)
    have hra := R.a hs hr
    rw [hrk] at hra
    by_cases hz : ta (HI h) t s r = 0
    · refine ⟨u2 (u2 (u2 (HI h) t 4 (nI (tm (HI h) t + 1))) (t + 3 + s) r (nI a)) (t + 7 + s) r (nI d), ?_, ?_, ?_⟩
      · rw [e45]
        simp (disch := omega) only [hrow, oI, S.f, S.s hs, S.sr hs (show r < 30 by omega), N.a hs (show r < 30 by omega), N.m, hz, cond_true, cond_false, bI_ok, bI_er, bV_ok, bV_er, bR_ok, bR_er, bD_ok, bD_er, bF_ok, bF_er, thr_ap, cl_nI, lt_nI, le_nI, eq_nI, m1_lt, nI_m1, m1_nI, nI_lt_m1, add_nI, sub_nI, addm_nI, z_addm, z_subm, mul_nI, fit1_0, fit1_1, fit2_n, HI_wI, HK_wI, HL_wI, HR_wI, ckK_wI, chI_wI, sI_wI, wI_wI, lz0, lz1, lz2, lz3, lz4, lz5, lz6, lz7, lz8, lz9, lz10, lz12, lz13, lz16, lz17, lz20, lz21, lz23, lz26, lz30, lz32, lz35, lz40, lz45, lz48, lz57, lz58, lz59, lz60, lz61, lz63, lz64, lz97, lz99, lz100, lz110, lz111, lz126, lz129, lz132, lz133, lz166, lz169, lz255, lz999, lz1183, lz1800, Nat.reduceAdd, Nat.reduceLT, Nat.reduceEqDiff, Nat.not_lt_zero, Nat.lt_irrefl, ↓reduceIte, Nat.zero_add, Nat.add_zero, ne_eq, not_true_eq_false, not_false_eq_true, reduceCtorEq]
      · rw [hra, hz] at hT
        simp only [Nat.lt_irrefl, decide_false, ha, decide_true, b2n, Bool.false_eq_true, if_true, if_false] at hT
        subst hrk
        refine R.upd hs hr ha2 hd ?_ ?_ hm ?_ ?_ ?_ (.inl ha)
        · simp only [u2]
          repeat' split
          all_goals first | rfl | omega
        · rw [show tot (sA A s (tk (HI h) t r) a) = tm (HI h) t + 1 by omega]
          simp only [u2]
          repeat' split
          all_goals first | rfl | omega | grind
        · intro x
          simp only [u2]
          repeat' split
          all_goals first | rfl | omega
        · intro s' hs' x
          simp only [u2]
          repeat' split
          all_goals first | rfl | omega
        · intro s' hs' x
          simp only [u2]
          repeat' split
          all_goals first | rfl | omega
      · exact ((Fr.rf.u2 (by omega) (by omega)).u2 (by omega) (by omega)).u2 (by omega) (by omega)
    · refine ⟨u2 (u2 (HI h) (t + 3 + s) r (nI a)) (t + 7 + s) r (nI d), ?_, ?_, ?_⟩
      · rw [e45]
        simp (disch := omega) only [hrow, oI, S.f, S.s hs, S.sr hs (show r < 30 by omega), N.a hs (show r < 30 by omega), N.m, hz, cond_true, cond_false, bI_ok, bI_er, bV_ok, bV_er, bR_ok, bR_er, bD_ok, bD_er, bF_ok, bF_er, thr_ap, cl_nI, lt_nI, le_nI, eq_nI, m1_lt, nI_m1, m1_nI, nI_lt_m1, add_nI, sub_nI, addm_nI, z_addm, z_subm, mul_nI, fit1_0, fit1_1, fit2_n, HI_wI, HK_wI, HL_wI, HR_wI, ckK_wI, chI_wI, sI_wI, wI_wI, lz0, lz1, lz2, lz3, lz4, lz5, lz6, lz7, lz8, lz9, lz10, lz12, lz13, lz16, lz17, lz20, lz21, lz23, lz26, lz30, lz32, lz35, lz40, lz45, lz48, lz57, lz58, lz59, lz60, lz61, lz63, lz64, lz97, lz99, lz100, lz110, lz111, lz126, lz129, lz132, lz133, lz166, lz169, lz255, lz999, lz1183, lz1800, Nat.reduceAdd, Nat.reduceLT, Nat.reduceEqDiff, Nat.not_lt_zero, Nat.lt_irrefl, ↓reduceIte, Nat.zero_add, Nat.add_zero, ne_eq, not_true_eq_false, not_false_eq_true, reduceCtorEq]
      · rw [hra] at hT
        simp only [show 0 < ta (HI h) t s r by omega, ha, decide_true, b2n, if_true] at hT
        subst hrk
        refine R.upd hs hr ha2 hd ?_ ?_ hm ?_ ?_ ?_ (.inl ha)
        · simp only [u2]
          repeat' split
          all_goals first | rfl | omega
        · rw [show tot (sA A s (tk (HI h) t r) a) = tm (HI h) t by omega, ← N.m]
          simp only [u2]
          repeat' split
          all_goals first | rfl | omega
        · intro x
          simp only [u2]
          repeat' split
          all_goals first | rfl | omega
        · intro s' hs' x
          simp only [u2]
          repeat' split
          all_goals first | rfl | omega
        · intro s' hs' x
          simp only [u2]
          repeat' split
          all_goals first | rfl | omega
      · exact (Fr.rf.u2 (by omega) (by omega)).u2 (by omega) (by omega)
  · rw [hrw] at hrow
    have hz : A s k = 0 := by
      have : s = 0 ∨ s = 1 ∨ s = 2 := by omega
      rcases this with rfl | rfl | rfl <;> assumption
    rw [hz] at hT
    simp only [Nat.lt_irrefl, decide_false, ha, decide_true, b2n, Bool.false_eq_true, if_true, if_false] at hT
    obtain ⟨p, hp, h1, h2⟩ := R.place hno
    have ht := R.tn_tot
    have hop := openRow_ok S N hk (by omega) hp h1 h2
    have o1 : onF (HI h) t p k (t + 3 + s) p = nI 0 := by
      unfold onF zrF
      exact if_pos ⟨rfl, by omega⟩
    have o2 : onF (HI h) t p k t 4 = nI (tm (HI h) t) := by
      rw [← N.m]
      simp only [onF, zrF, opF, u2]
      repeat' split
      all_goals first | rfl | omega | grind
    refine ⟨inF (HI h) t p s k a d, ?_, R.ins hs hk ha ha2 hd (by omega) (by omega) hp h1 h2, inF_Fr hs⟩
    rw [e45]
    simp (disch := omega) only [hrow, hop, oI, S.f, S.s hs, S.sr hs (show p < 30 by omega), o1, w2_ne, o2, inF, cond_true, cond_false, bI_ok, bI_er, bV_ok, bV_er, bR_ok, bR_er, bD_ok, bD_er, bF_ok, bF_er, thr_ap, cl_nI, lt_nI, le_nI, eq_nI, m1_lt, nI_m1, m1_nI, nI_lt_m1, add_nI, sub_nI, addm_nI, z_addm, z_subm, mul_nI, fit1_0, fit1_1, fit2_n, HI_wI, HK_wI, HL_wI, HR_wI, ckK_wI, chI_wI, sI_wI, wI_wI, lz0, lz1, lz2, lz3, lz4, lz5, lz6, lz7, lz8, lz9, lz10, lz12, lz13, lz16, lz17, lz20, lz21, lz23, lz26, lz30, lz32, lz35, lz40, lz45, lz48, lz57, lz58, lz59, lz60, lz61, lz63, lz64, lz97, lz99, lz100, lz110, lz111, lz126, lz129, lz132, lz133, lz166, lz169, lz255, lz999, lz1183, lz1800, Nat.reduceAdd, Nat.reduceLT, Nat.reduceEqDiff, Nat.not_lt_zero, Nat.lt_irrefl, ↓reduceIte, Nat.zero_add, Nat.add_zero, ne_eq, not_true_eq_false, not_false_eq_true, reduceCtorEq]
/-- all amounts of row r made a, of the first n sources -/
def lvF (f : Nat → Nat → Int32) (t r a n : Nat) : Nat → Nat → Int32 := fun b x => if x = r ∧ t + 3 ≤ b ∧ b < t + 3 + n ∧ 0 < rd f b r then nI a else f b x
def lvA (A : AF) (k a : Nat) : AF := fun s' k' => if k' = k ∧ 0 < A s' k' then a else A s' k'
def lvN (A : AF) (k a : Nat) (n : Nat) : Nat := sumN (fun s => b2n (decide (0 < A s k ∧ A s k ≠ a))) n
theorem lvF_3 {f : Nat → Nat → Int32} {r a : Nat} {s' : Nat} (hs' : s' < 3) (x : Nat) : lvF f t r a 3 (t + 3 + s') x = if x = r ∧ 0 < ta f t s' r then nI a else f (t + 3 + s') x := by
  unfold lvF ta
  by_cases hc : x = r ∧ 0 < rd f (t + 3 + s') r
  · rw [if_pos ⟨hc.1, by omega, by omega, hc.2⟩, if_pos hc]
  · rw [if_neg (fun q => hc ⟨q.1, q.2.2.2⟩), if_neg hc]
theorem lvF_o {f : Nat → Nat → Int32} {r a b n : Nat} (hb : b < t + 3 ∨ t + 3 + n ≤ b) (x : Nat) : lvF f t r a n b x = f b x := if_neg (by omega)
theorem RT.level {f : Nat → Nat → Int32} (R : RT f t A D) {r a : Nat} (hr : r < tn f t) (ha : 0 < a) (ha2 : a < 100) : RT (lvF f t r a 3) t (lvA A (tk f t r) a) D := by
  have N := R.N
  have n30 := R.n30
  have hlo : lvF f t r a 3 t 3 = f t 3 := lvF_o (.inl (by omega)) 3
  have hl4 : lvF f t r a 3 t 4 = f t 4 := lvF_o (.inl (by omega)) 4
  have hlk : ∀ x, lvF f t r a 3 (t + 1) x = f (t + 1) x := lvF_o (.inl (by omega))
  have i3 : tn (lvF f t r a 3) t = tn f t := rd_cg hlo
  have i4 : tm (lvF f t r a 3) t = tm f t := rd_cg hl4
  have ik : ∀ x, tk (lvF f t r a 3) t x = tk f t x := fun x => rd_cg (hlk x)
  have id' : ∀ s', s' < 3 → ∀ x, td (lvF f t r a 3) t s' x = td f t s' x := fun s' hs' x => rd_cg (lvF_o (.inr (by omega)) x)
  have ia : ∀ s', s' < 3 → ∀ x, ta (lvF f t r a 3) t s' x = if x = r ∧ 0 < ta f t s' r then a else ta f t s' x := fun s' hs' x => by
    show (lvF f t r a 3 (t + 3 + s') x).toNatClampNeg = _
    rw [lvF_3 hs']
    split
    · exact cl_nI (by omega)
    · rfl
  have hst : ∀ s', s' < 3 → ∀ x, x < tn f t → (lvA A (tk f t r) a s' (tk f t x) = if x = r ∧ 0 < ta f t s' r then a else ta f t s' x) := fun s' hs' x hx => by
    unfold lvA
    rw [R.a hs' hx]
    by_cases hc : x = r
    · subst hc
      simp only [true_and]
    · rw [if_neg (fun q => hc (R.inj hx hr q.1)), if_neg (fun q => hc q.1)]
  refine ⟨⟨N.1.cg hlo, N.2.1.cg hl4, fun x hx => (N.2.2.1 x hx).cg (hlk x), ?_, fun s' hs' x hx => (N.2.2.2.2 s' hs' x hx).cg (lvF_o (.inr (by omega)) x)⟩, ?_, ?_, ?_, ?_, ?_⟩
  · intro s' hs' x hx
    have e := lvF_3 (f := f) (t := t) (r := r) (a := a) hs' x
    split at e
    · exact .of e ha2
    · exact (N.2.2.2.1 s' hs' x hx).cg e
  · intro x x' h1 h2
    rw [ik, ik]
    exact R.lt h1 (by omega)
  · intro x hx
    have h1 := R.ne (r := x) (by omega)
    rw [ia 0 (by decide), ia 1 (by decide), ia 2 (by decide)]
    rw [hol3_pos] at h1 ⊢
    by_cases hc : x = r
    · subst hc
      rcases h1 with h1 | h1 | h1
      · exact .inl (by rw [if_pos ⟨rfl, h1⟩]; exact ha)
      · exact .inr (.inl (by rw [if_pos ⟨rfl, h1⟩]; exact ha))
      · exact .inr (.inr (by rw [if_pos ⟨rfl, h1⟩]; exact ha))
    · simp only [hc, false_and, if_false]
      exact h1
  · intro s' x hs' hx
    rw [i3] at hx
    rw [ik, ia s' hs', id' s' hs', hst s' hs' x hx]
    refine ⟨rfl, fun h0 => ?_⟩
    by_cases hc : x = r ∧ 0 < ta f t s' r
    · obtain ⟨rfl, h1⟩ := hc
      exact R.d hs' hx h1
    · rw [if_neg hc] at h0
      exact R.d hs' hx h0
  · intro s' k' hs' hk' hh
    unfold lvA
    have h1 := R.no hs' hk' (fun x hx => by rw [← ik]; exact hh x (by omega))
    rw [h1, if_neg (by omega)]
  · rw [i4, R.m]
    unfold tot hoA hol3 lvA
    refine sumN_eq (fun k _ => ?_)
    have hq : ∀ y : Nat, b2n (decide (0 < if k = tk f t r ∧ 0 < y then a else y)) = b2n (decide (0 < y)) := fun y => by
      split
      · rename_i hh
        simp [ha, hh.2]
      · rfl
    rw [hq, hq, hq]
theorem level_ok (S : TbS h t) (R : RT (HI h) t A D) {r a : Nat} (hr : r < tn (HI h) t) (ha2 : a < 100) : CL 49 [.ref t, .int (nI r), .int (nI a)] h = some (.ok (.int (nI (lvN A (tk (HI h) t r) a 3))), wI h (lvF (HI h) t r a 3)) := by
  have N := R.N
  have n30 := R.n30
  rw [e49]
  simp only [lz0]
  have e0 : lvF (HI h) t r a 0 = HI h := by
    funext b x
    exact if_neg (by omega)
  refine (congrArg (fun q => RF 49 5 [.ref t, .int (nI r), .int (nI a), .int (nI 0), .int (nI 0)] [] (wI h q)) e0.symm).trans ?_
  refine (lpUp (F := fun n => RF 49 5 [.ref t, .int (nI r), .int (nI a), .int (nI (lvN A (tk (HI h) t r) a n)), .int (nI n)] [] (wI h (lvF (HI h) t r a n))) (Nat.zero_le 3) (fun s _ hs => ?_)).trans ?_
  · rw [e49_5]
    have a9 := N.a9 hs (show r < 30 by omega)
    have e1 : lvF (HI h) t r a s (t + 3 + s) r = nI (ta (HI h) t s r) := by
      rw [lvF_o (.inr (by omega))]
      exact N.a hs (by omega)
    have hA := R.a hs hr
    have e2 : ta (HI h) t s r = 0 → lvF (HI h) t r a (s + 1) = lvF (HI h) t r a s := fun h0 => by
      funext b x
      unfold lvF
      by_cases hb : b = t + 3 + s
      · subst hb
        have : rd (HI h) (t + 3 + s) r = 0 := h0
        rw [this, if_neg (by omega), if_neg (by omega)]
      · by_cases hc : x = r ∧ t + 3 ≤ b ∧ b < t + 3 + s ∧ 0 < rd (HI h) b r
        · rw [if_pos hc, if_pos ⟨hc.1, hc.2.1, by omega, hc.2.2.2⟩]
        · rw [if_neg hc, if_neg (fun q => hc ⟨q.1, q.2.1, by omega, q.2.2.2⟩)]
    have e3 : 0 < ta (HI h) t s r → lvF (HI h) t r a (s + 1) = u2 (lvF (HI h) t r a s) (t + 3 + s) r (nI a) := fun h0 => by
      funext b x
      have h0 : 0 < rd (HI h) (t + 3 + s) r := h0
      unfold lvF u2
      by_cases hb : b = t + 3 + s ∧ x = r
      · rw [if_pos hb]
        obtain ⟨rfl, rfl⟩ := hb
        exact if_pos ⟨rfl, by omega, by omega, h0⟩
      · rw [if_neg hb]
        dsimp only
        by_cases hc : x = r ∧ t + 3 ≤ b ∧ b < t + 3 + s ∧ 0 < rd (HI h) b r
        · rw [if_pos hc, if_pos ⟨hc.1, hc.2.1, by omega, hc.2.2.2⟩]
        · rw [if_neg hc, if_neg (fun q => hc ⟨q.1, q.2.1, by omega, q.2.2.2⟩)]
    by_cases h1 : ta (HI h) t s r = 0
    · rw [e2 h1]
      simp (disch := omega) only [S.f, S.s hs, S.sr hs (show r < 30 by omega), e1, hs, h1, hA, lvN, sumN, b2n, false_and, decide_false, Bool.false_eq_true, cond_true, cond_false, bI_ok, bI_er, bV_ok, bV_er, bR_ok, bR_er, bD_ok, bD_er, bF_ok, bF_er, thr_ap, cl_nI, lt_nI, le_nI, eq_nI, m1_lt, nI_m1, m1_nI, nI_lt_m1, add_nI, sub_nI, addm_nI, z_addm, z_subm, mul_nI, fit1_0, fit1_1, fit2_n, HI_wI, HK_wI, HL_wI, HR_wI, ckK_wI, chI_wI, sI_wI, wI_wI, lz0, lz1, lz2, lz3, lz4, lz5, lz6, lz7, lz8, lz9, lz10, lz12, lz13, lz16, lz17, lz20, lz21, lz23, lz26, lz30, lz32, lz35, lz40, lz45, lz48, lz57, lz58, lz59, lz60, lz61, lz63, lz64, lz97, lz99, lz100, lz110, lz111, lz126, lz129, lz132, lz133, lz166, lz169, lz255, lz999, lz1183, lz1800, Nat.reduceAdd, Nat.reduceLT, Nat.reduceEqDiff, Nat.not_lt_zero, Nat.lt_irrefl, ↓reduceIte, Nat.zero_add, Nat.add_zero, ne_eq, not_true_eq_false, not_false_eq_true, reduceCtorEq]
    · have h2 : 0 < ta (HI h) t s r := by omega
      by_cases h3 : ta (HI h) t s r = a
      · have e4 : lvF (HI h) t r a (s + 1) = lvF (HI h) t r a s := by
          rw [e3 h2]
          exact u2_self (by rw [e1, h3])
        have ha0 : 0 < a := by omega
        rw [e4]
        simp (disch := omega) only [S.f, S.s hs, S.sr hs (show r < 30 by omega), e1, hs, h3, ha0, hA, lvN, sumN, b2n, and_false, decide_false, Bool.false_eq_true, cond_true, cond_false, bI_ok, bI_er, bV_ok, bV_er, bR_ok, bR_er, bD_ok, bD_er, bF_ok, bF_er, thr_ap, cl_nI, lt_nI, le_nI, eq_nI, m1_lt, nI_m1, m1_nI, nI_lt_m1, add_nI, sub_nI, addm_nI, z_addm, z_subm, mul_nI, fit1_0, fit1_1, fit2_n, HI_wI, HK_wI, HL_wI, HR_wI, ckK_wI, chI_wI, sI_wI, wI_wI, lz0, lz1, lz2, lz3, lz4, lz5, lz6, lz7, lz8, lz9, lz10, lz12, lz13, lz16, lz17, lz20, lz21, lz23, lz26, lz30, lz32, lz35, lz40, lz45, lz48, lz57, lz58, lz59, lz60, lz61, lz63, lz64, lz97, lz99, lz100, lz110, lz111, lz126, lz129, lz132, lz133, lz166, lz169, lz255, lz999, lz1183, lz1800, Nat.reduceAdd, Nat.reduceLT, Nat.reduceEqDiff, Nat.not_lt_zero, Nat.lt_irrefl, ↓reduceIte, Nat.zero_add, Nat.add_zero, ne_eq, not_true_eq_false, not_false_eq_true, reduceCtorEq]
      · rw [e3 h2]
        simp (disch := omega) only [S.f, S.s hs, S.sr hs (show r < 30 by omega), e1, hs, h2, h3, hA, lvN, sumN, b2n, and_self, decide_true, cond_true, cond_false, bI_ok, bI_er, bV_ok, bV_er, bR_ok, bR_er, bD_ok, bD_er, bF_ok, bF_er, thr_ap, cl_nI, lt_nI, le_nI, eq_nI, m1_lt, nI_m1, m1_nI, nI_lt_m1, add_nI, sub_nI, addm_nI, z_addm, z_subm, mul_nI, fit1_0, fit1_1, fit2_n, HI_wI, HK_wI, HL_wI, HR_wI, ckK_wI, chI_wI, sI_wI, wI_wI, lz0, lz1, lz2, lz3, lz4, lz5, lz6, lz7, lz8, lz9, lz10, lz12, lz13, lz16, lz17, lz20, lz21, lz23, lz26, lz30, lz32, lz35, lz40, lz45, lz48, lz57, lz58, lz59, lz60, lz61, lz63, lz64, lz97, lz99, lz100, lz110, lz111, lz126, lz129, lz132, lz133, lz166, lz169, lz255, lz999, lz1183, lz1800, Nat.reduceAdd, Nat.reduceLT, Nat.reduceEqDiff, Nat.not_lt_zero, Nat.lt_irrefl, ↓reduceIte, Nat.zero_add, Nat.add_zero, ne_eq, not_true_eq_false, not_false_eq_true, reduceCtorEq]
  · rw [e49_5]
    simp (disch := omega) only [cond_true, cond_false, bI_ok, bI_er, bV_ok, bV_er, bR_ok, bR_er, bD_ok, bD_er, bF_ok, bF_er, thr_ap, cl_nI, lt_nI, le_nI, eq_nI, m1_lt, nI_m1, m1_nI, nI_lt_m1, add_nI, sub_nI, addm_nI, z_addm, z_subm, mul_nI, fit1_0, fit1_1, fit2_n, HI_wI, HK_wI, HL_wI, HR_wI, ckK_wI, chI_wI, sI_wI, wI_wI, lz0, lz1, lz2, lz3, lz4, lz5, lz6, lz7, lz8, lz9, lz10, lz12, lz13, lz16, lz17, lz20, lz21, lz23, lz26, lz30, lz32, lz35, lz40, lz45, lz48, lz57, lz58, lz59, lz60, lz61, lz63, lz64, lz97, lz99, lz100, lz110, lz111, lz126, lz129, lz132, lz133, lz166, lz169, lz255, lz999, lz1183, lz1800, Nat.reduceAdd, Nat.reduceLT, Nat.reduceEqDiff, Nat.not_lt_zero, Nat.lt_irrefl, ↓reduceIte, Nat.zero_add, Nat.add_zero, ne_eq, not_true_eq_false, not_false_eq_true, reduceCtorEq]
theorem lvF_Fr {f : Nat → Nat → Int32} {r a : Nat} : Fr t (t + 10) f (lvF f t r a 3) := fun b x hb => lvF_o (by omega) x
/-- rows r .. i - 1 are those behind them -/
def dlF (f : Nat → Nat → Int32) (t r i : Nat) : Nat → Nat → Int32 := fun a x => if r ≤ x ∧ x < i ∧ (a = t + 1 ∨ (t + 3 ≤ a ∧ a < t + 6) ∨ (t + 7 ≤ a ∧ a < t + 10)) then f a (x + 1) else f a x
theorem cp_dl (g : Nat → Nat → Int32) (t r i : Nat) (hi : r ≤ i) : cpF (dlF g t r i) t (i + 1) i 3 = dlF g t r (i + 1) := by
  funext a x
  unfold cpF dlF
  by_cases hc : a = t + 1 ∨ (t + 3 ≤ a ∧ a < t + 6) ∨ (t + 7 ≤ a ∧ a < t + 10)
  · have hc' : a = t + 1 ∨ (t + 3 ≤ a ∧ a < t + 3 + 3) ∨ (t + 7 ≤ a ∧ a < t + 7 + 3) := by omega
    rcases Nat.lt_trichotomy x i with h | h | h
    · by_cases hx : r ≤ x
      · rw [if_neg (by omega), if_pos ⟨hx, h, hc⟩, if_pos ⟨hx, by omega, hc⟩]
      · rw [if_neg (by omega), if_neg (by omega), if_neg (by omega)]
    · subst h
      rw [if_pos ⟨rfl, hc'⟩, if_neg (by omega), if_pos ⟨by omega, by omega, hc⟩]
    · rw [if_neg (by omega), if_neg (by omega), if_neg (by omega)]
  · rw [if_neg (by omega), if_neg (by omega), if_neg (by omega)]
/-- row r without the amount of source s, and a record less -/
def z1F (f : Nat → Nat → Int32) (t s r m : Nat) : Nat → Nat → Int32 := u2 (u2 (u2 f (t + 3 + s) r (nI 0)) (t + 7 + s) r (nI 0)) t 4 (nI m)
theorem z1F_3 {f : Nat → Nat → Int32} {s r m : Nat} : z1F f t s r m t 3 = f t 3 := by
  simp only [z1F, u2]
  repeat' split
  all_goals first | rfl | omega
theorem z1F_4 {f : Nat → Nat → Int32} {s r m : Nat} : z1F f t s r m t 4 = nI m := w2_eq _ _ _ _
theorem z1F_k {f : Nat → Nat → Int32} {s r m : Nat} (hs : s < 3) (x : Nat) : z1F f t s r m (t + 1) x = f (t + 1) x := by
  simp only [z1F, u2]
  repeat' split
  all_goals first | rfl | omega
theorem z1F_a {f : Nat → Nat → Int32} {s r m : Nat} (hs : s < 3) {s' : Nat} (hs' : s' < 3) (x : Nat) : z1F f t s r m (t + 3 + s') x = if x = r ∧ s' = s then nI 0 else f (t + 3 + s') x := by
  simp only [z1F, u2]
  repeat' split
  all_goals first | rfl | omega
theorem z1F_d {f : Nat → Nat → Int32} {s r m : Nat} (hs : s < 3) {s' : Nat} (hs' : s' < 3) (x : Nat) : z1F f t s r m (t + 7 + s') x = if x = r ∧ s' = s then nI 0 else f (t + 7 + s') x := by
  simp only [z1F, u2]
  repeat' split
  all_goals first | rfl | omega
theorem z1F_Fr {f : Nat → Nat → Int32} {s r m : Nat} (hs : s < 3) : Fr t (t + 10) f (z1F f t s r m) := ((Fr.rf.u2 (by omega) (by omega)).u2 (by omega) (by omega)).u2 (by omega) (by omega)
theorem z1F_N {f : Nat → Nat → Int32} {s r m : Nat} (N : TbN f t) (hs : s < 3) (hm : m < 31) : TbN (z1F f t s r m) t := by
  refine ⟨N.1.cg z1F_3, .of z1F_4 hm, fun x hx => (N.2.2.1 x hx).cg (z1F_k hs x), fun s' hs' x hx => ?_, fun s' hs' x hx => ?_⟩
  · have e := z1F_a (f := f) (t := t) (r := r) (m := m) hs hs' x
    split at e
    · exact .of e (by decide)
    · exact (N.2.2.2.1 s' hs' x hx).cg e
  · have e := z1F_d (f := f) (t := t) (r := r) (m := m) hs hs' x
    split at e
    · exact .of e (by decide)
    · exact (N.2.2.2.2 s' hs' x hx).cg e
theorem remove_ok (S : TbS h t) (R : RT (HI h) t A D) {s r : Nat} (hs : s < 3) (hr : r < tn (HI h) t) (h0 : 0 < ta (HI h) t s r) : ∃ f', CL 51 [.ref t, .int (nI s), .int (nI r)] h = some (.ok .null, wI h f') ∧ RT f' t (sA A s (tk (HI h) t r) 0) D ∧ Fr t (t + 10) (HI h) f' := by
  have N := R.N
  have n30 := R.n30
  have m30 := N.m30
  have hM := R.m
  have hT := tot_sA A (s := s) (k := tk (HI h) t r) (v := 0) hs (R.k9 hr)
  rw [R.a hs hr] at hT
  simp only [Nat.lt_irrefl, decide_false, h0, decide_true, b2n, Bool.false_eq_true, if_true, if_false] at hT
  have hN1 := z1F_N (s := s) (r := r) (m := tm (HI h) t - 1) N hs (by omega)
  have hh := holders_eq (S.wI (z1F (HI h) t s r (tm (HI h) t - 1))) hN1 (r := r) (by omega)
  rw [HI_wI] at hh
  have ia : ∀ s', s' < 3 → ∀ x, ta (z1F (HI h) t s r (tm (HI h) t - 1)) t s' x = if x = r ∧ s' = s then 0 else ta (HI h) t s' x := fun s' hs' x => by
    show (z1F (HI h) t s r (tm (HI h) t - 1) (t + 3 + s') x).toNatClampNeg = _
    rw [z1F_a hs hs']
    split
    · exact cl_nI (by omega)
    · rfl
  have id' : ∀ s', s' < 3 → ∀ x, td (z1F (HI h) t s r (tm (HI h) t - 1)) t s' x = if x = r ∧ s' = s then 0 else td (HI h) t s' x := fun s' hs' x => by
    show (z1F (HI h) t s r (tm (HI h) t - 1) (t + 7 + s') x).toNatClampNeg = _
    rw [z1F_d hs hs']
    split
    · exact cl_nI (by omega)
    · rfl
  by_cases hq : 0 < hol3 (ta (z1F (HI h) t s r (tm (HI h) t - 1)) t 0 r) (ta (z1F (HI h) t s r (tm (HI h) t - 1)) t 1 r) (ta (z1F (HI h) t s r (tm (HI h) t - 1)) t 2 r)
  · refine ⟨z1F (HI h) t s r (tm (HI h) t - 1), ?_, ?_, z1F_Fr hs⟩
    · have hl := hol3_lt (ta (z1F (HI h) t s r (tm (HI h) t - 1)) t 0 r) (ta (z1F (HI h) t s r (tm (HI h) t - 1)) t 1 r) (ta (z1F (HI h) t s r (tm (HI h) t - 1)) t 2 r)
      have e1 : u2 (u2 (u2 (HI h) (t + 3 + s) r (nI 0)) (t + 7 + s) r (nI 0)) t 4 (nI (tm (HI h) t - 1)) = z1F (HI h) t s r (tm (HI h) t - 1) := rfl
      rw [e51]
      simp (disch := omega) only [S.f, S.s hs, S.sr hs (show r < 30 by omega), w2_ne, N.m, e1, hh, hq, cond_true, cond_false, bI_ok, bI_er, bV_ok, bV_er, bR_ok, bR_er, bD_ok, bD_er, bF_ok, bF_er, thr_ap, cl_nI, lt_nI, le_nI, eq_nI, m1_lt, nI_m1, m1_nI, nI_lt_m1, add_nI, sub_nI, addm_nI, z_addm, z_subm, mul_nI, fit1_0, fit1_1, fit2_n, HI_wI, HK_wI, HL_wI, HR_wI, ckK_wI, chI_wI, sI_wI, wI_wI, lz0, lz1, lz2, lz3, lz4, lz5, lz6, lz7, lz8, lz9, lz10, lz12, lz13, lz16, lz17, lz20, lz21, lz23, lz26, lz30, lz32, lz35, lz40, lz45, lz48, lz57, lz58, lz59, lz60, lz61, lz63, lz64, lz97, lz99, lz100, lz110, lz111, lz126, lz129, lz132, lz133, lz166, lz169, lz255, lz999, lz1183, lz1800, Nat.reduceAdd, Nat.reduceLT, Nat.reduceEqDiff, Nat.not_lt_zero, Nat.lt_irrefl, ↓reduceIte, Nat.zero_add, Nat.add_zero, ne_eq, not_true_eq_false, not_false_eq_true, reduceCtorEq]
    · have hu := R.upd (g := z1F (HI h) t s r (tm (HI h) t - 1)) (r := r) (s := s) (a := 0) (d := 0) hs hr (by decide) (by decide) z1F_3 (by rw [z1F_4]; congr 1; omega) (by omega) (z1F_k hs) (fun s' hs' x => z1F_a hs hs' x) (fun s' hs' x => z1F_d hs hs' x) (.inr (by
        rw [hol3_pos, ia 0 (by decide), ia 1 (by decide), ia 2 (by decide)] at hq
        rcases hq with hq | hq | hq
        · by_cases hc : 0 = s
          · rw [if_pos ⟨rfl, hc⟩] at hq
            omega
          · rw [if_neg (fun q => hc q.2)] at hq
            exact ⟨0, by decide, hc, hq⟩
        · by_cases hc : 1 = s
          · rw [if_pos ⟨rfl, hc⟩] at hq
            omega
          · rw [if_neg (fun q => hc q.2)] at hq
            exact ⟨1, by decide, hc, hq⟩
        · by_cases hc : 2 = s
          · rw [if_pos ⟨rfl, hc⟩] at hq
            omega
          · rw [if_neg (fun q => hc q.2)] at hq
            exact ⟨2, by decide, hc, hq⟩))
      refine hu.cgD (fun s' k' _ _ hp => ?_)
      by_cases hc : s' = s ∧ k' = tk (HI h) t r
      · obtain ⟨rfl, rfl⟩ := hc
        rw [sA_eq] at hp
        omega
      · exact (sA_ne hc).symm
  · have hq0 : hol3 (ta (z1F (HI h) t s r (tm (HI h) t - 1)) t 0 r) (ta (z1F (HI h) t s r (tm (HI h) t - 1)) t 1 r) (ta (z1F (HI h) t s r (tm (HI h) t - 1)) t 2 r) = 0 := by omega
    have hoth : ∀ s', s' < 3 → s' ≠ s → ta (HI h) t s' r = 0 := fun s' hs' hne => by
      rw [hol3_pos, ia 0 (by decide), ia 1 (by decide), ia 2 (by decide)] at hq
      have : s' = 0 ∨ s' = 1 ∨ s' = 2 := by omega
      rcases this with rfl | rfl | rfl
      · rw [if_neg (c := r = r ∧ 0 = s) (fun q => hne q.2)] at hq
        omega
      · rw [if_neg (c := r = r ∧ 1 = s) (fun q => hne q.2)] at hq
        omega
      · rw [if_neg (c := r = r ∧ 2 = s) (fun q => hne q.2)] at hq
        omega
    refine ⟨dlF (u2 (z1F (HI h) t s r (tm (HI h) t - 1)) t 3 (nI (tn (HI h) t - 1))) t r (tn (HI h) t - 1), ?_, ?_, ?_⟩
    · have e1 : u2 (u2 (u2 (HI h) (t + 3 + s) r (nI 0)) (t + 7 + s) r (nI 0)) t 4 (nI (tm (HI h) t - 1)) = z1F (HI h) t s r (tm (HI h) t - 1) := rfl
      have e2 : u2 (z1F (HI h) t s r (tm (HI h) t - 1)) t 3 (nI (tn (HI h) t - 1)) = dlF (u2 (z1F (HI h) t s r (tm (HI h) t - 1)) t 3 (nI (tn (HI h) t - 1))) t r r := by
        funext a x
        exact (if_neg (by omega)).symm
      have e4 : z1F (HI h) t s r (tm (HI h) t - 1) t 3 = nI (tn (HI h) t) := by rw [z1F_3, N.n]
      rw [e51]
      simp (disch := omega) only [S.f, S.s hs, S.sr hs (show r < 30 by omega), w2_ne, N.m, e1, hh, hq0, e4, cond_true, cond_false, bI_ok, bI_er, bV_ok, bV_er, bR_ok, bR_er, bD_ok, bD_er, bF_ok, bF_er, thr_ap, cl_nI, lt_nI, le_nI, eq_nI, m1_lt, nI_m1, m1_nI, nI_lt_m1, add_nI, sub_nI, addm_nI, z_addm, z_subm, mul_nI, fit1_0, fit1_1, fit2_n, HI_wI, HK_wI, HL_wI, HR_wI, ckK_wI, chI_wI, sI_wI, wI_wI, lz0, lz1, lz2, lz3, lz4, lz5, lz6, lz7, lz8, lz9, lz10, lz12, lz13, lz16, lz17, lz20, lz21, lz23, lz26, lz30, lz32, lz35, lz40, lz45, lz48, lz57, lz58, lz59, lz60, lz61, lz63, lz64, lz97, lz99, lz100, lz110, lz111, lz126, lz129, lz132, lz133, lz166, lz169, lz255, lz999, lz1183, lz1800, Nat.reduceAdd, Nat.reduceLT, Nat.reduceEqDiff, Nat.not_lt_zero, Nat.lt_irrefl, ↓reduceIte, Nat.zero_add, Nat.add_zero, ne_eq, not_true_eq_false, not_false_eq_true, reduceCtorEq]
      refine (congrArg (fun q => RF 51 49 [.ref t, .int (nI s), .int (nI r), .int (nI r)] [] (wI h q)) e2).trans ?_
      refine (lpUp (F := fun i => RF 51 49 [.ref t, .int (nI s), .int (nI r), .int (nI i)] [] (wI h (dlF (u2 (z1F (HI h) t s r (tm (HI h) t - 1)) t 3 (nI (tn (HI h) t - 1))) t r i))) (show r ≤ tn (HI h) t - 1 by omega) (fun i h1 h2 => ?_)).trans ?_
      · have hc := copyRow_ok (S.wI (dlF (u2 (z1F (HI h) t s r (tm (HI h) t - 1)) t 3 (nI (tn (HI h) t - 1))) t r i)) (i := i + 1) (j := i) (by omega) (by omega)
        rw [HI_wI, cp_dl _ _ _ _ h1] at hc
        have e3 : dlF (u2 (z1F (HI h) t s r (tm (HI h) t - 1)) t 3 (nI (tn (HI h) t - 1))) t r i t 3 = nI (tn (HI h) t - 1) := (if_neg (by omega)).trans (w2_eq _ _ _ _)
        rw [e51_49]
        simp (disch := omega) only [S.f, e3, h2, hc, cond_true, cond_false, bI_ok, bI_er, bV_ok, bV_er, bR_ok, bR_er, bD_ok, bD_er, bF_ok, bF_er, thr_ap, cl_nI, lt_nI, le_nI, eq_nI, m1_lt, nI_m1, m1_nI, nI_lt_m1, add_nI, sub_nI, addm_nI, z_addm, z_subm, mul_nI, fit1_0, fit1_1, fit2_n, HI_wI, HK_wI, HL_wI, HR_wI, ckK_wI, chI_wI, sI_wI, wI_wI, lz0, lz1, lz2, lz3, lz4, lz5, lz6, lz7, lz8, lz9, lz10, lz12, lz13, lz16, lz17, lz20, lz21, lz23, lz26, lz30, lz32, lz35, lz40, lz45, lz48, lz57, lz58, lz59, lz60, lz61, lz63, lz64, lz97, lz99, lz100, lz110, lz111, lz126, lz129, lz132, lz133, lz166, lz169, lz255, lz999, lz1183, lz1800, Nat.reduceAdd, Nat.reduceLT, Nat.reduceEqDiff, Nat.not_lt_zero, Nat.lt_irrefl, ↓reduceIte, Nat.zero_add, Nat.add_zero, ne_eq, not_true_eq_false, not_false_eq_true, reduceCtorEq]
      · have e3 : dlF (u2 (z1F (HI h) t s r (tm (HI h) t - 1)) t 3 (nI (tn (HI h) t - 1))) t r (tn (HI h) t - 1) t 3 = nI (tn (HI h) t - 1) := (if_neg (by omega)).trans (w2_eq _ _ _ _)
        rw [e51_49]
        simp (disch := omega) only [S.f, e3, cond_true, cond_false, bI_ok, bI_er, bV_ok, bV_er, bR_ok, bR_er, bD_ok, bD_er, bF_ok, bF_er, thr_ap, cl_nI, lt_nI, le_nI, eq_nI, m1_lt, nI_m1, m1_nI, nI_lt_m1, add_nI, sub_nI, addm_nI, z_addm, z_subm, mul_nI, fit1_0, fit1_1, fit2_n, HI_wI, HK_wI, HL_wI, HR_wI, ckK_wI, chI_wI, sI_wI, wI_wI, lz0, lz1, lz2, lz3, lz4, lz5, lz6, lz7, lz8, lz9, lz10, lz12, lz13, lz16, lz17, lz20, lz21, lz23, lz26, lz30, lz32, lz35, lz40, lz45, lz48, lz57, lz58, lz59, lz60, lz61, lz63, lz64, lz97, lz99, lz100, lz110, lz111, lz126, lz129, lz132, lz133, lz166, lz169, lz255, lz999, lz1183, lz1800, Nat.reduceAdd, Nat.reduceLT, Nat.reduceEqDiff, Nat.not_lt_zero, Nat.lt_irrefl, ↓reduceIte, Nat.zero_add, Nat.add_zero, ne_eq, not_true_eq_false, not_false_eq_true, reduceCtorEq]
    · have hb : ∀ a, a ≠ t → ∀ x, (dlF (u2 (z1F (HI h) t s r (tm (HI h) t - 1)) t 3 (nI (tn (HI h) t - 1))) t r (tn (HI h) t - 1)) a x = if r ≤ x ∧ x < tn (HI h) t - 1 ∧ (a = t + 1 ∨ (t + 3 ≤ a ∧ a < t + 6) ∨ (t + 7 ≤ a ∧ a < t + 10)) then z1F (HI h) t s r (tm (HI h) t - 1) a (x + 1) else z1F (HI h) t s r (tm (HI h) t - 1) a x := fun a ha x => by
        unfold dlF
        rw [w2_ne (by omega), w2_ne (by omega)]
      have h3 : (dlF (u2 (z1F (HI h) t s r (tm (HI h) t - 1)) t 3 (nI (tn (HI h) t - 1))) t r (tn (HI h) t - 1)) t 3 = nI (tn (HI h) t - 1) := (if_neg (by omega)).trans (w2_eq _ _ _ _)
      have h4 : (dlF (u2 (z1F (HI h) t s r (tm (HI h) t - 1)) t 3 (nI (tn (HI h) t - 1))) t r (tn (HI h) t - 1)) t 4 = nI (tm (HI h) t - 1) := (if_neg (by omega)).trans ((w2_ne (by omega)).trans z1F_4)
      generalize dlF (u2 (z1F (HI h) t s r (tm (HI h) t - 1)) t 3 (nI (tn (HI h) t - 1))) t r (tn (HI h) t - 1) = g at *
      refine R.del hs hr h0 hoth ⟨.of h3 (by omega), .of h4 (by omega), ?_, ?_, ?_⟩ (rd_of h3 (by omega)) (rd_of h4 (by omega)) ?_ ?_ ?_
      · intro x hx
        have e := hb (t + 1) (by omega) x
        split at e
        · exact (hN1.2.2.1 (x + 1) (by omega)).cg e
        · exact (hN1.2.2.1 x hx).cg e
      · intro s' hs' x hx
        have e := hb (t + 3 + s') (by omega) x
        split at e
        · exact (hN1.2.2.2.1 s' hs' (x + 1) (by omega)).cg e
        · exact (hN1.2.2.2.1 s' hs' x hx).cg e
      · intro s' hs' x hx
        have e := hb (t + 7 + s') (by omega) x
        split at e
        · exact (hN1.2.2.2.2 s' hs' (x + 1) (by omega)).cg e
        · exact (hN1.2.2.2.2 s' hs' x hx).cg e
      · intro x hx
        have e := hb (t + 1) (by omega) x
        by_cases hc : r ≤ x
        · rw [if_pos ⟨hc, hx, .inl rfl⟩] at e
          rw [if_pos hc]
          exact rd_cg (e.trans (z1F_k hs _))
        · rw [if_neg (fun q => hc q.1)] at e
          rw [if_neg hc]
          exact rd_cg (e.trans (z1F_k hs _))
      · intro s' hs' x hx
        have e := hb (t + 3 + s') (by omega) x
        by_cases hc : r ≤ x
        · rw [if_pos ⟨hc, hx, by omega⟩, z1F_a hs hs', if_neg (by omega)] at e
          rw [if_pos hc]
          exact rd_cg e
        · rw [if_neg (fun q => hc q.1), z1F_a hs hs', if_neg (by omega)] at e
          rw [if_neg hc]
          exact rd_cg e
      · intro s' hs' x hx
        have e := hb (t + 7 + s') (by omega) x
        by_cases hc : r ≤ x
        · rw [if_pos ⟨hc, hx, by omega⟩, z1F_d hs hs', if_neg (by omega)] at e
          rw [if_pos hc]
          exact rd_cg e
        · rw [if_neg (fun q => hc q.1), z1F_d hs hs', if_neg (by omega)] at e
          rw [if_neg hc]
          exact rd_cg e
    · intro a x ha
      unfold dlF
      rw [if_neg (by omega), w2_ne (by omega)]
      exact z1F_Fr hs a x ha
end TM
