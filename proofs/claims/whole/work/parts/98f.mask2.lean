/-! THE REFERENCE: its questions, second part -/
/-- the first of the least -/
def bm (p : Nat → Bool) (v : Nat → Nat) : Nat → Option Nat
  | 0 => none
  | n + 1 => match bm p v n with
    | none => if p n then some n else none
    | some m => if p n && decide (v n < v m) then some n else some m
theorem bm_spec (p : Nat → Bool) (v : Nat → Nat) : ∀ n, match bm p v n with
    | none => ∀ k, k < n → p k = false
    | some m => m < n ∧ p m = true ∧ (∀ k, k < n → p k = true → v m ≤ v k) ∧ ∀ k, k < m → p k = true → v m < v k
  | 0 => fun k hk => absurd hk (Nat.not_lt_zero k)
  | n + 1 => by
    have ih := bm_spec p v n
    simp only [bm]
    cases hb : bm p v n with
    | none =>
      rw [hb] at ih
      dsimp only at ih ⊢
      cases hp : p n with
      | false =>
        simp only [Bool.false_eq_true, if_false]
        intro k hk
        by_cases q : k = n
        · rw [q]
          exact hp
        · exact ih k (by omega)
      | true =>
        simp only [if_true]
        refine ⟨by omega, hp, fun k hk h1 => ?_, fun k hk h1 => ?_⟩
        · by_cases q : k = n
          · rw [q]
            exact Nat.le_refl _
          · rw [ih k (by omega)] at h1
            cases h1
        · rw [ih k hk] at h1
          cases h1
    | some m =>
      rw [hb] at ih
      dsimp only at ih ⊢
      obtain ⟨i1, i2, i3, i4⟩ := ih
      cases hp : p n with
      | false =>
        simp only [Bool.false_and, Bool.false_eq_true, if_false]
        refine ⟨by omega, i2, fun k hk h1 => ?_, i4⟩
        by_cases q : k = n
        · rw [q, hp] at h1
          cases h1
        · exact i3 k (by omega) h1
      | true =>
        by_cases hv : v n < v m
        · simp only [Bool.true_and, hv, decide_true, if_true]
          refine ⟨by omega, hp, fun k hk h1 => ?_, fun k hk h1 => ?_⟩
          · by_cases q : k = n
            · rw [q]
              exact Nat.le_refl _
            · have := i3 k (by omega) h1
              omega
          · have := i3 k hk h1
            omega
        · simp only [Bool.true_and, hv, decide_false, Bool.false_eq_true, if_false]
          refine ⟨by omega, i2, fun k hk h1 => ?_, i4⟩
          by_cases q : k = n
          · rw [q]
            omega
          · exact i3 k (by omega) h1
theorem olA_bm (A D : AF) (s : Nat) : ∀ n, olA A D s n = bm (fun k => decide (0 < A s k)) (D s) n
  | 0 => rfl
  | n + 1 => by
    simp only [olA, bm]
    rw [olA_bm A D s n]
    cases bm (fun k => decide (0 < A s k)) (D s) n with
    | none => by_cases q : 0 < A s n <;> simp [q]
    | some m => by_cases q : 0 < A s n <;> by_cases q2 : D s n < D s m <;> simp [q, q2]
section MQ
variable {h : Hp} {b : Bk} {A D : AF}
/-- how many records of a source lie in front of one -/
theorem RM.place {g : Nat → Int32} (R : RM g A D) {s j : Nat} (hs : s < 3) (hj : j < tot A) (hjs : ms g j = s) : sumN (fun i => b2n (decide (ms g i = s))) j = sumN (fun k => b2n (decide (0 < A s k))) (mk g j) := by
  have hb := R.b hj
  have h1 : sumN (fun i => b2n (decide (i < j ∧ ms g i = s))) (tot A) = sumN (fun i => b2n (decide (ms g i = s))) j := by
    rw [sumN_cut (m := j) (by omega) (fun k q1 q2 => by rw [decide_eq_false (by omega)]; rfl)]
    exact sumN_eq (fun i hi => by
      congr 1
      rw [decide_eq_decide]
      exact ⟨fun q => q.2, fun q => ⟨hi, q⟩⟩)
  rw [← h1, R.sum (F := fun s' k' => b2n (decide (s' = s ∧ 0 < A s' k' ∧ k' < mk g j))) (fun i hi => by
    have hbi := R.b hi
    congr 1
    rw [decide_eq_decide]
    constructor
    · rintro ⟨q1, q2⟩
      have := R.lt q1 hj
      exact ⟨q2, hbi.2.2.1, by omega⟩
    · rintro ⟨q1, _, q3⟩
      refine ⟨?_, q1⟩
      rcases Nat.lt_trichotomy i j with q | q | q
      · exact q
      · subst q
        omega
      · have := R.lt q hi
        omega) (fun s' k' _ _ q => by rw [q, decide_eq_false (by omega)]; rfl)]
  have z : ∀ s', s' ≠ s → sumN (fun k => b2n (decide (s' = s ∧ 0 < A s' k ∧ k < mk g j))) 1000 = 0 := fun s' q => sumN_0 (fun k _ => by rw [decide_eq_false (fun z => q z.1)]; rfl)
  have o : sumN (fun k => b2n (decide (s = s ∧ 0 < A s k ∧ k < mk g j))) 1000 = sumN (fun k => b2n (decide (0 < A s k))) (mk g j) := by
    rw [sumN_cut (m := mk g j) (by omega) (fun k q1 q2 => by rw [decide_eq_false (by omega)]; rfl)]
    exact sumN_eq (fun k hk => by
      congr 1
      rw [decide_eq_decide]
      exact ⟨fun q => q.2.1, fun q => ⟨rfl, q, hk⟩⟩)
  have : s = 0 ∨ s = 1 ∨ s = 2 := by omega
  rcases this with rfl | rfl | rfl
  · rw [o, z 1 (by decide), z 2 (by decide)]; simp only [Nat.add_zero]
  · rw [o, z 0 (by decide), z 2 (by decide), Nat.zero_add, Nat.add_zero]
  · rw [o, z 0 (by decide), z 1 (by decide), Nat.zero_add]
def kaM (g : Nat → Int32) (x p : Int32) (j : Nat) : Bool := decide (nI (97 + ms g j) = x ∧ nI (sumN (fun i => b2n (decide (nI (97 + ms g i) = x))) j) = p)
def keyO (g : Nat → Int32) (o : Option Nat) : Int32 := match o with
  | none => -1
  | some j => nI (mk g j)
theorem cnt_lt {q : Nat → Bool} {k k' : Nat} (h : k' < k) (hq : q k' = true) : sumN (fun i => b2n (q i)) k' < sumN (fun i => b2n (q i)) k := by
  have h1 : sumN (fun i => b2n (q i)) (k' + 1) ≤ sumN (fun i => b2n (q i)) k := sumN_mono h
  have h2 : sumN (fun i => b2n (q i)) (k' + 1) = sumN (fun i => b2n (q i)) k' + b2n (q k') := rfl
  rw [hq, b2t] at h2
  omega
theorem cnt_le (q : Nat → Bool) (n : Nat) : sumN (fun i => b2n (q i)) n ≤ n := by
  have := sumN_bd (f := fun i => b2n (q i)) (n := n) (b := 1) (fun i _ => by unfold b2n; split <;> omega)
  omega
theorem kaM_ka {g : Nat → Int32} (R : RM g A D) {s : Nat} (hs : s < 3) (p : Int32) : (la? (kaM g (nI (97 + s)) p) (tot A)).map (mk g) = kaA A s p := by
  have m30 := R.m30
  have ex : ∀ j, j < tot A → (nI (97 + ms g j) = nI (97 + s)) = (ms g j = s) := fun j hj => by
    have := (R.b hj).1
    rw [eq_nI (by omega) (by omega)]
    exact propext (by omega)
  have es : ∀ j, j ≤ tot A → sumN (fun i => b2n (decide (nI (97 + ms g i) = nI (97 + s)))) j = sumN (fun i => b2n (decide (ms g i = s))) j := fun j hj => sumN_eq (fun i hi => by
    congr 1
    rw [decide_eq_decide, ex i (by omega)])
  have hk : ∀ j, j < tot A → kaM g (nI (97 + s)) p j = decide (ms g j = s ∧ nI (sumN (fun k => b2n (decide (0 < A s k))) (mk g j)) = p) := fun j hj => by
    unfold kaM
    rw [decide_eq_decide, ex j hj, es j (by omega)]
    constructor
    · rintro ⟨q1, q2⟩
      exact ⟨q1, by rw [← R.place hs hj q1]; exact q2⟩
    · rintro ⟨q1, q2⟩
      exact ⟨q1, by rw [R.place hs hj q1]; exact q2⟩
  cases hl : la? (kaM g (nI (97 + s)) p) (tot A) with
  | some j =>
    obtain ⟨h1, h2, _⟩ := la_some hl
    rw [hk j h1] at h2
    obtain ⟨h3, h4⟩ := of_decide_eq_true h2
    have hb := R.b h1
    rw [h3] at hb
    symm
    refine fst_some.mpr ⟨hb.2.1, decide_eq_true ⟨hb.2.2.1, h4⟩, fun k hk2 => decide_eq_false (fun ⟨q1, q2⟩ => ?_)⟩
    have c1 := cnt_lt (q := fun k => decide (0 < A s k)) hk2 (decide_eq_true q1)
    have c2 := cnt_le (fun k => decide (0 < A s k)) (mk g j)
    rw [← h4, eq_nI (by omega) (by omega)] at q2
    omega
  | none =>
    symm
    refine fst_none.mpr (fun k hk2 => decide_eq_false (fun ⟨q1, q2⟩ => ?_))
    obtain ⟨j, j1, j2, j3⟩ := R.ex hs hk2 q1
    have := la_none hl j j1
    rw [hk j j1, j3] at this
    exact of_decide_eq_false this ⟨j2, q2⟩
theorem keyAtM_go (S : MdS h) (R : RM (HI h 242) A D) (x p : Int32) : ∃ n v, CL 265 [.ref 241, .int x, .int p] h = RF 265 8 [.ref 241, .int x, .int p, .int (keyO (HI h 242) (la? (kaM (HI h 242) x p) (tot A))), .int n, .int (nI (tot A)), v] [] h := by
  have m30 := R.m30
  obtain ⟨v, hv, _⟩ := lpEx (β := Value) (n := tot A) (x0 := Value.null) (P := fun _ _ => True) (F := fun i v => RF 265 8 [.ref 241, .int x, .int p, .int (keyO (HI h 242) (la? (kaM (HI h 242) x p) i)), .int (nI (sumN (fun i => b2n (decide (nI (97 + ms (HI h 242) i) = x))) i)), .int (nI i), v] [] h) trivial (fun j v hj _ => by
    have hs := of_s S R hj
    have hk := of_k S R hj
    have hla := la_suc (kaM (HI h 242) x p) j
    rw [hla]
    by_cases q1 : nI (97 + ms (HI h 242) j) = x
    · by_cases q2 : nI (sumN (fun i => b2n (decide (nI (97 + ms (HI h 242) i) = x))) j) = p
      · refine ⟨.int (nI 1), ?_, trivial⟩
        have hm : kaM (HI h 242) x p j = true := decide_eq_true ⟨q1, q2⟩
        rw [hm, e265_8]
        simp (disch := omega) only [S.f, S.cw (show 1 < 169 by decide), R.m, hj, hs, hk, q1, q2, sumN, decide_true, b2t, keyO, Nat.succ_ne_self, cond_true, cond_false, bI_ok, bI_er, bV_ok, bV_er, bR_ok, bR_er, bD_ok, bD_er, bF_ok, bF_er, thr_ap, cl_nI, lt_nI, le_nI, eq_nI, m1_lt, nI_m1, m1_nI, nI_lt_m1, add_nI, sub_nI, addm_nI, z_addm, z_subm, mul_nI, fit1_0, fit1_1, fit2_n, HI_wI, HK_wI, HL_wI, HR_wI, ckK_wI, chI_wI, sI_wI, wI_wI, lz0, lz1, lz2, lz3, lz4, lz5, lz6, lz7, lz8, lz9, lz10, lz12, lz13, lz16, lz17, lz20, lz21, lz23, lz26, lz30, lz32, lz35, lz40, lz45, lz48, lz57, lz58, lz59, lz60, lz61, lz63, lz64, lz97, lz99, lz100, lz110, lz111, lz126, lz129, lz132, lz133, lz166, lz169, lz255, lz999, lz1183, lz1800, Nat.reduceAdd, Nat.reduceLT, Nat.reduceEqDiff, Nat.not_lt_zero, Nat.lt_irrefl, ↓reduceIte, Nat.zero_add, Nat.add_zero, ne_eq, not_true_eq_false, not_false_eq_true, reduceCtorEq]
        rw [← q2, add_nI]
      · refine ⟨.int (nI 1), ?_, trivial⟩
        have hm : kaM (HI h 242) x p j = false := decide_eq_false (fun z => q2 z.2)
        rw [hm, e265_8]
        simp (disch := omega) only [S.f, S.cw (show 1 < 169 by decide), R.m, hj, hs, hk, q1, q2, sumN, decide_true, b2t, Bool.false_eq_true, Nat.succ_ne_self, cond_true, cond_false, bI_ok, bI_er, bV_ok, bV_er, bR_ok, bR_er, bD_ok, bD_er, bF_ok, bF_er, thr_ap, cl_nI, lt_nI, le_nI, eq_nI, m1_lt, nI_m1, m1_nI, nI_lt_m1, add_nI, sub_nI, addm_nI, z_addm, z_subm, mul_nI, fit1_0, fit1_1, fit2_n, HI_wI, HK_wI, HL_wI, HR_wI, ckK_wI, chI_wI, sI_wI, wI_wI, lz0, lz1, lz2, lz3, lz4, lz5, lz6, lz7, lz8, lz9, lz10, lz12, lz13, lz16, lz17, lz20, lz21, lz23, lz26, lz30, lz32, lz35, lz40, lz45, lz48, lz57, lz58, lz59, lz60, lz61, lz63, lz64, lz97, lz99, lz100, lz110, lz111, lz126, lz129, lz132, lz133, lz166, lz169, lz255, lz999, lz1183, lz1800, Nat.reduceAdd, Nat.reduceLT, Nat.reduceEqDiff, Nat.not_lt_zero, Nat.lt_irrefl, ↓reduceIte, Nat.zero_add, Nat.add_zero, ne_eq, not_true_eq_false, not_false_eq_true, reduceCtorEq]
    · refine ⟨.int (nI 0), ?_, trivial⟩
      have hm : kaM (HI h 242) x p j = false := decide_eq_false (fun z => q1 z.1)
      rw [hm, e265_8]
      simp (disch := omega) only [S.f, S.cw (show 1 < 169 by decide), R.m, hj, hs, q1, sumN, decide_false, b2f, Bool.false_eq_true, Nat.succ_ne_self, cond_true, cond_false, bI_ok, bI_er, bV_ok, bV_er, bR_ok, bR_er, bD_ok, bD_er, bF_ok, bF_er, thr_ap, cl_nI, lt_nI, le_nI, eq_nI, m1_lt, nI_m1, m1_nI, nI_lt_m1, add_nI, sub_nI, addm_nI, z_addm, z_subm, mul_nI, fit1_0, fit1_1, fit2_n, HI_wI, HK_wI, HL_wI, HR_wI, ckK_wI, chI_wI, sI_wI, wI_wI, lz0, lz1, lz2, lz3, lz4, lz5, lz6, lz7, lz8, lz9, lz10, lz12, lz13, lz16, lz17, lz20, lz21, lz23, lz26, lz30, lz32, lz35, lz40, lz45, lz48, lz57, lz58, lz59, lz60, lz61, lz63, lz64, lz97, lz99, lz100, lz110, lz111, lz126, lz129, lz132, lz133, lz166, lz169, lz255, lz999, lz1183, lz1800, Nat.reduceAdd, Nat.reduceLT, Nat.reduceEqDiff, Nat.not_lt_zero, Nat.lt_irrefl, ↓reduceIte, Nat.zero_add, Nat.add_zero, ne_eq, not_true_eq_false, not_false_eq_true, reduceCtorEq])
  refine ⟨nI (sumN (fun i => b2n (decide (nI (97 + ms (HI h 242) i) = x))) (tot A)), v, ?_⟩
  rw [e265]
  exact hv
theorem keyAtM_t (S : MdS h) (R : RM (HI h 242) A D) {s : Nat} (hs : s < 3) (p : Int32) : CL 265 [.ref 241, .int (nI (97 + s)), .int p] h = match kaA A s p with
    | some k => some (.ok (.int (nI k)), tH h 0)
    | none => some (.ok (.int (nI 0)), tH h 2) := by
  have m30 := R.m30
  obtain ⟨n, v, hgo⟩ := keyAtM_go S R (nI (97 + s)) p
  rw [hgo, e265_8, ← kaM_ka R hs p]
  cases hl : la? (kaM (HI h 242) (nI (97 + s)) p) (tot A) with
  | none =>
    have hk : keyO (HI h 242) none = -nI 1 := rfl
    rw [hk]
    simp (disch := omega) only [S.f, S.cw (show 1 < 169 by decide), R.m, m_s (hs_in hs), h_tft S, Option.map, cond_true, cond_false, bI_ok, bI_er, bV_ok, bV_er, bR_ok, bR_er, bD_ok, bD_er, bF_ok, bF_er, thr_ap, cl_nI, lt_nI, le_nI, eq_nI, m1_lt, nI_m1, m1_nI, nI_lt_m1, add_nI, sub_nI, addm_nI, z_addm, z_subm, mul_nI, fit1_0, fit1_1, fit2_n, HI_wI, HK_wI, HL_wI, HR_wI, ckK_wI, chI_wI, sI_wI, wI_wI, lz0, lz1, lz2, lz3, lz4, lz5, lz6, lz7, lz8, lz9, lz10, lz12, lz13, lz16, lz17, lz20, lz21, lz23, lz26, lz30, lz32, lz35, lz40, lz45, lz48, lz57, lz58, lz59, lz60, lz61, lz63, lz64, lz97, lz99, lz100, lz110, lz111, lz126, lz129, lz132, lz133, lz166, lz169, lz255, lz999, lz1183, lz1800, Nat.reduceAdd, Nat.reduceLT, Nat.reduceEqDiff, Nat.not_lt_zero, Nat.lt_irrefl, ↓reduceIte, Nat.zero_add, Nat.add_zero, ne_eq, not_true_eq_false, not_false_eq_true, reduceCtorEq]
  | some j =>
    have hb := R.b (la_some hl).1
    have hk : keyO (HI h 242) (some j) = nI (mk (HI h 242) j) := rfl
    rw [hk]
    simp (disch := omega) only [S.f, S.cw (show 1 < 169 by decide), R.m, m_s (hs_in hs), h_ttt S, Option.map, Nat.succ_ne_self, cond_true, cond_false, bI_ok, bI_er, bV_ok, bV_er, bR_ok, bR_er, bD_ok, bD_er, bF_ok, bF_er, thr_ap, cl_nI, lt_nI, le_nI, eq_nI, m1_lt, nI_m1, m1_nI, nI_lt_m1, add_nI, sub_nI, addm_nI, z_addm, z_subm, mul_nI, fit1_0, fit1_1, fit2_n, HI_wI, HK_wI, HL_wI, HR_wI, ckK_wI, chI_wI, sI_wI, wI_wI, lz0, lz1, lz2, lz3, lz4, lz5, lz6, lz7, lz8, lz9, lz10, lz12, lz13, lz16, lz17, lz20, lz21, lz23, lz26, lz30, lz32, lz35, lz40, lz45, lz48, lz57, lz58, lz59, lz60, lz61, lz63, lz64, lz97, lz99, lz100, lz110, lz111, lz126, lz129, lz132, lz133, lz166, lz169, lz255, lz999, lz1183, lz1800, Nat.reduceAdd, Nat.reduceLT, Nat.reduceEqDiff, Nat.not_lt_zero, Nat.lt_irrefl, ↓reduceIte, Nat.zero_add, Nat.add_zero, ne_eq, not_true_eq_false, not_false_eq_true, reduceCtorEq]
theorem keyAtM_f (S : MdS h) (R : RM (HI h 242) A D) (x p : Int32) (hx : inr 97 99 x = false) : CL 265 [.ref 241, .int x, .int p] h = some (.ok (.int (nI 0)), tH h 1) := by
  have m30 := R.m30
  obtain ⟨n, v, hgo⟩ := keyAtM_go S R x p
  rw [hgo, e265_8]
  cases hl : la? (kaM (HI h 242) x p) (tot A) with
  | none =>
    have hk : keyO (HI h 242) none = -nI 1 := rfl
    rw [hk]
    simp (disch := omega) only [S.f, S.cw (show 1 < 169 by decide), R.m, m_sf hx, h_fft S, cond_true, cond_false, bI_ok, bI_er, bV_ok, bV_er, bR_ok, bR_er, bD_ok, bD_er, bF_ok, bF_er, thr_ap, cl_nI, lt_nI, le_nI, eq_nI, m1_lt, nI_m1, m1_nI, nI_lt_m1, add_nI, sub_nI, addm_nI, z_addm, z_subm, mul_nI, fit1_0, fit1_1, fit2_n, HI_wI, HK_wI, HL_wI, HR_wI, ckK_wI, chI_wI, sI_wI, wI_wI, lz0, lz1, lz2, lz3, lz4, lz5, lz6, lz7, lz8, lz9, lz10, lz12, lz13, lz16, lz17, lz20, lz21, lz23, lz26, lz30, lz32, lz35, lz40, lz45, lz48, lz57, lz58, lz59, lz60, lz61, lz63, lz64, lz97, lz99, lz100, lz110, lz111, lz126, lz129, lz132, lz133, lz166, lz169, lz255, lz999, lz1183, lz1800, Nat.reduceAdd, Nat.reduceLT, Nat.reduceEqDiff, Nat.not_lt_zero, Nat.lt_irrefl, ↓reduceIte, Nat.zero_add, Nat.add_zero, ne_eq, not_true_eq_false, not_false_eq_true, reduceCtorEq]
  | some j =>
    have hb := R.b (la_some hl).1
    have hk : keyO (HI h 242) (some j) = nI (mk (HI h 242) j) := rfl
    rw [hk]
    simp (disch := omega) only [S.f, S.cw (show 1 < 169 by decide), R.m, m_sf hx, h_ftt S, cond_true, cond_false, bI_ok, bI_er, bV_ok, bV_er, bR_ok, bR_er, bD_ok, bD_er, bF_ok, bF_er, thr_ap, cl_nI, lt_nI, le_nI, eq_nI, m1_lt, nI_m1, m1_nI, nI_lt_m1, add_nI, sub_nI, addm_nI, z_addm, z_subm, mul_nI, fit1_0, fit1_1, fit2_n, HI_wI, HK_wI, HL_wI, HR_wI, ckK_wI, chI_wI, sI_wI, wI_wI, lz0, lz1, lz2, lz3, lz4, lz5, lz6, lz7, lz8, lz9, lz10, lz12, lz13, lz16, lz17, lz20, lz21, lz23, lz26, lz30, lz32, lz35, lz40, lz45, lz48, lz57, lz58, lz59, lz60, lz61, lz63, lz64, lz97, lz99, lz100, lz110, lz111, lz126, lz129, lz132, lz133, lz166, lz169, lz255, lz999, lz1183, lz1800, Nat.reduceAdd, Nat.reduceLT, Nat.reduceEqDiff, Nat.not_lt_zero, Nat.lt_irrefl, ↓reduceIte, Nat.zero_add, Nat.add_zero, ne_eq, not_true_eq_false, not_false_eq_true, reduceCtorEq]
theorem oldestM_go (S : MdS h) (R : RM (HI h 242) A D) (x : Int32) : ∃ v, CL 267 [.ref 241, .int x] h = RF 267 4 [.ref 241, .int x, .int (oI (bm (fun j => decide (nI (97 + ms (HI h 242) j) = x)) (fun j => D (ms (HI h 242) j) (mk (HI h 242) j)) (tot A))), .int (nI (tot A)), v] [] h := by
  have m30 := R.m30
  obtain ⟨v, hv, _⟩ := lpEx (β := Value) (n := tot A) (x0 := Value.null) (P := fun _ _ => True) (F := fun i v => RF 267 4 [.ref 241, .int x, .int (oI (bm (fun j => decide (nI (97 + ms (HI h 242) j) = x)) (fun j => D (ms (HI h 242) j) (mk (HI h 242) j)) i)), .int (nI i), v] [] h) trivial (fun j v hj _ => by
    have hs := of_s S R hj
    have hd := of_d S R hj
    have hdb := (R.b hj).2.2.2.2
    have hsp := bm_spec (fun j => decide (nI (97 + ms (HI h 242) j) = x)) (fun j => D (ms (HI h 242) j) (mk (HI h 242) j)) j
    simp only [bm]
    cases hb : bm (fun j => decide (nI (97 + ms (HI h 242) j) = x)) (fun j => D (ms (HI h 242) j) (mk (HI h 242) j)) j with
    | none =>
      have ho : oI none = -nI 1 := rfl
      by_cases q1 : nI (97 + ms (HI h 242) j) = x
      · refine ⟨.int (nI 1), ?_, trivial⟩
        rw [e267_4, ho]
        simp (disch := omega) only [S.f, S.cw (show 1 < 169 by decide), R.m, hj, hs, q1, decide_true, oI_some, Nat.succ_ne_self, cond_true, cond_false, bI_ok, bI_er, bV_ok, bV_er, bR_ok, bR_er, bD_ok, bD_er, bF_ok, bF_er, thr_ap, cl_nI, lt_nI, le_nI, eq_nI, m1_lt, nI_m1, m1_nI, nI_lt_m1, add_nI, sub_nI, addm_nI, z_addm, z_subm, mul_nI, fit1_0, fit1_1, fit2_n, HI_wI, HK_wI, HL_wI, HR_wI, ckK_wI, chI_wI, sI_wI, wI_wI, lz0, lz1, lz2, lz3, lz4, lz5, lz6, lz7, lz8, lz9, lz10, lz12, lz13, lz16, lz17, lz20, lz21, lz23, lz26, lz30, lz32, lz35, lz40, lz45, lz48, lz57, lz58, lz59, lz60, lz61, lz63, lz64, lz97, lz99, lz100, lz110, lz111, lz126, lz129, lz132, lz133, lz166, lz169, lz255, lz999, lz1183, lz1800, Nat.reduceAdd, Nat.reduceLT, Nat.reduceEqDiff, Nat.not_lt_zero, Nat.lt_irrefl, ↓reduceIte, Nat.zero_add, Nat.add_zero, ne_eq, not_true_eq_false, not_false_eq_true, reduceCtorEq]
      · refine ⟨.int (nI 0), ?_, trivial⟩
        rw [e267_4, ho]
        simp (disch := omega) only [S.f, S.cw (show 1 < 169 by decide), R.m, hj, hs, q1, decide_false, Bool.false_eq_true, ho, Nat.succ_ne_self, cond_true, cond_false, bI_ok, bI_er, bV_ok, bV_er, bR_ok, bR_er, bD_ok, bD_er, bF_ok, bF_er, thr_ap, cl_nI, lt_nI, le_nI, eq_nI, m1_lt, nI_m1, m1_nI, nI_lt_m1, add_nI, sub_nI, addm_nI, z_addm, z_subm, mul_nI, fit1_0, fit1_1, fit2_n, HI_wI, HK_wI, HL_wI, HR_wI, ckK_wI, chI_wI, sI_wI, wI_wI, lz0, lz1, lz2, lz3, lz4, lz5, lz6, lz7, lz8, lz9, lz10, lz12, lz13, lz16, lz17, lz20, lz21, lz23, lz26, lz30, lz32, lz35, lz40, lz45, lz48, lz57, lz58, lz59, lz60, lz61, lz63, lz64, lz97, lz99, lz100, lz110, lz111, lz126, lz129, lz132, lz133, lz166, lz169, lz255, lz999, lz1183, lz1800, Nat.reduceAdd, Nat.reduceLT, Nat.reduceEqDiff, Nat.not_lt_zero, Nat.lt_irrefl, ↓reduceIte, Nat.zero_add, Nat.add_zero, ne_eq, not_true_eq_false, not_false_eq_true, reduceCtorEq]
    | some m =>
      rw [hb] at hsp
      have hm : m < tot A := by have := hsp.1; omega
      have hdm := of_d S R hm
      have hdmb := (R.b hm).2.2.2.2
      by_cases q1 : nI (97 + ms (HI h 242) j) = x
      · by_cases q2 : D (ms (HI h 242) j) (mk (HI h 242) j) < D (ms (HI h 242) m) (mk (HI h 242) m)
        · refine ⟨.int (nI 1), ?_, trivial⟩
          rw [e267_4]
          simp (disch := omega) only [S.f, S.cw (show 1 < 169 by decide), R.m, hj, hs, hd, hdm, q1, q2, decide_true, Bool.and_self, oI_some, Nat.succ_ne_self, cond_true, cond_false, bI_ok, bI_er, bV_ok, bV_er, bR_ok, bR_er, bD_ok, bD_er, bF_ok, bF_er, thr_ap, cl_nI, lt_nI, le_nI, eq_nI, m1_lt, nI_m1, m1_nI, nI_lt_m1, add_nI, sub_nI, addm_nI, z_addm, z_subm, mul_nI, fit1_0, fit1_1, fit2_n, HI_wI, HK_wI, HL_wI, HR_wI, ckK_wI, chI_wI, sI_wI, wI_wI, lz0, lz1, lz2, lz3, lz4, lz5, lz6, lz7, lz8, lz9, lz10, lz12, lz13, lz16, lz17, lz20, lz21, lz23, lz26, lz30, lz32, lz35, lz40, lz45, lz48, lz57, lz58, lz59, lz60, lz61, lz63, lz64, lz97, lz99, lz100, lz110, lz111, lz126, lz129, lz132, lz133, lz166, lz169, lz255, lz999, lz1183, lz1800, Nat.reduceAdd, Nat.reduceLT, Nat.reduceEqDiff, Nat.not_lt_zero, Nat.lt_irrefl, ↓reduceIte, Nat.zero_add, Nat.add_zero, ne_eq, not_true_eq_false, not_false_eq_true, reduceCtorEq]
        · refine ⟨.int (nI 0), ?_, trivial⟩
          rw [e267_4]
          simp (disch := omega) only [S.f, S.cw (show 1 < 169 by decide), R.m, hj, hs, hd, hdm, q1, q2, decide_true, decide_false, Bool.and_false, Bool.false_eq_true, oI_some, Nat.succ_ne_self, cond_true, cond_false, bI_ok, bI_er, bV_ok, bV_er, bR_ok, bR_er, bD_ok, bD_er, bF_ok, bF_er, thr_ap, cl_nI, lt_nI, le_nI, eq_nI, m1_lt, nI_m1, m1_nI, nI_lt_m1, add_nI, sub_nI, addm_nI, z_addm, z_subm, mul_nI, fit1_0, fit1_1, fit2_n, HI_wI, HK_wI, HL_wI, HR_wI, ckK_wI, chI_wI, sI_wI, wI_wI, lz0, lz1, lz2, lz3, lz4, lz5, lz6, lz7, lz8, lz9, lz10, lz12, lz13, lz16, lz17, lz20, lz21, lz23, lz26, lz30, lz32, lz35, lz40, lz45, lz48, lz57, lz58, lz59, lz60, lz61, lz63, lz64, lz97, lz99, lz100, lz110, lz111, lz126, lz129, lz132, lz133, lz166, lz169, lz255, lz999, lz1183, lz1800, Nat.reduceAdd, Nat.reduceLT, Nat.reduceEqDiff, Nat.not_lt_zero, Nat.lt_irrefl, ↓reduceIte, Nat.zero_add, Nat.add_zero, ne_eq, not_true_eq_false, not_false_eq_true, reduceCtorEq]
      · refine ⟨.int (nI 0), ?_, trivial⟩
        rw [e267_4]
        simp (disch := omega) only [S.f, S.cw (show 1 < 169 by decide), R.m, hj, hs, q1, decide_false, Bool.false_and, Bool.false_eq_true, oI_some, Nat.succ_ne_self, cond_true, cond_false, bI_ok, bI_er, bV_ok, bV_er, bR_ok, bR_er, bD_ok, bD_er, bF_ok, bF_er, thr_ap, cl_nI, lt_nI, le_nI, eq_nI, m1_lt, nI_m1, m1_nI, nI_lt_m1, add_nI, sub_nI, addm_nI, z_addm, z_subm, mul_nI, fit1_0, fit1_1, fit2_n, HI_wI, HK_wI, HL_wI, HR_wI, ckK_wI, chI_wI, sI_wI, wI_wI, lz0, lz1, lz2, lz3, lz4, lz5, lz6, lz7, lz8, lz9, lz10, lz12, lz13, lz16, lz17, lz20, lz21, lz23, lz26, lz30, lz32, lz35, lz40, lz45, lz48, lz57, lz58, lz59, lz60, lz61, lz63, lz64, lz97, lz99, lz100, lz110, lz111, lz126, lz129, lz132, lz133, lz166, lz169, lz255, lz999, lz1183, lz1800, Nat.reduceAdd, Nat.reduceLT, Nat.reduceEqDiff, Nat.not_lt_zero, Nat.lt_irrefl, ↓reduceIte, Nat.zero_add, Nat.add_zero, ne_eq, not_true_eq_false, not_false_eq_true, reduceCtorEq])
  refine ⟨v, ?_⟩
  rw [e267]
  exact hv
theorem olM_ol {g : Nat → Int32} (R : RM g A D) {s : Nat} (hs : s < 3) : (bm (fun j => decide (nI (97 + ms g j) = nI (97 + s))) (fun j => D (ms g j) (mk g j)) (tot A)).map (mk g) = olA A D s 1000 := by
  have m30 := R.m30
  rw [olA_bm]
  obtain ⟨N, hN⟩ : ∃ N, N = 1000 := ⟨_, rfl⟩
  rw [← hN]
  have ex : ∀ j, j < tot A → (nI (97 + ms g j) = nI (97 + s)) = (ms g j = s) := fun j hj => by
    have := (R.b hj).1
    rw [eq_nI (by omega) (by omega)]
    exact propext (by omega)
  have h1 := bm_spec (fun j => decide (nI (97 + ms g j) = nI (97 + s))) (fun j => D (ms g j) (mk g j)) (tot A)
  have h2 := bm_spec (fun k => decide (0 < A s k)) (D s) N
  cases b1 : bm (fun j => decide (nI (97 + ms g j) = nI (97 + s))) (fun j => D (ms g j) (mk g j)) (tot A) with
  | none =>
    rw [b1] at h1
    cases b2 : bm (fun k => decide (0 < A s k)) (D s) N with
    | none => rfl
    | some m =>
      rw [b2] at h2
      obtain ⟨q1, q2, _⟩ := h2
      obtain ⟨j, j1, j2, j3⟩ := R.ex hs (show m < 1000 by omega) (of_decide_eq_true q2)
      have := of_decide_eq_false (h1 j j1)
      rw [ex j j1] at this
      exact absurd j2 this
  | some w =>
    rw [b1] at h1
    obtain ⟨w1, w2, w3, w4⟩ := h1
    have w2 := of_decide_eq_true w2
    rw [ex w w1] at w2
    have hb := R.b w1
    rw [w2] at hb
    cases b2 : bm (fun k => decide (0 < A s k)) (D s) N with
    | none =>
      rw [b2] at h2
      have := of_decide_eq_false (h2 (mk g w) (by omega))
      exact absurd hb.2.2.1 this
    | some m =>
      rw [b2] at h2
      obtain ⟨q1, q2, q3, q4⟩ := h2
      obtain ⟨j, j1, j2, j3⟩ := R.ex hs (show m < 1000 by omega) (of_decide_eq_true q2)
      have a1 := w3 j j1 (decide_eq_true (by rw [ex j j1]; exact j2))
      have a2 := q3 (mk g w) (by omega) (decide_eq_true hb.2.2.1)
      rw [w2, j2, j3] at a1
      show some (mk g w) = some m
      congr 1
      rcases Nat.lt_trichotomy (mk g w) m with q | q | q
      · have := q4 (mk g w) q (decide_eq_true hb.2.2.1)
        omega
      · exact q
      · have hjw : j < w := by
          rcases Nat.lt_trichotomy j w with z | z | z
          · exact z
          · subst z
            omega
          · have := R.lt z j1
            omega
        have := w4 j hjw (decide_eq_true (by rw [ex j j1]; exact j2))
        rw [w2, j2, j3] at this
        omega
theorem oldestM_t (S : MdS h) (R : RM (HI h 242) A D) {s : Nat} (hs : s < 3) : CL 267 [.ref 241, .int (nI (97 + s))] h = match olA A D s 1000 with
    | some k => some (.ok (.int (nI k)), tH h 0)
    | none => some (.ok (.int (nI 0)), tH h 2) := by
  have m30 := R.m30
  obtain ⟨v, hgo⟩ := oldestM_go S R (nI (97 + s))
  rw [hgo, e267_4, ← olM_ol R hs]
  have hsp := bm_spec (fun j => decide (nI (97 + ms (HI h 242) j) = nI (97 + s))) (fun j => D (ms (HI h 242) j) (mk (HI h 242) j)) (tot A)
  cases hl : bm (fun j => decide (nI (97 + ms (HI h 242) j) = nI (97 + s))) (fun j => D (ms (HI h 242) j) (mk (HI h 242) j)) (tot A) with
  | none =>
    have ho : oI none = -nI 1 := rfl
    rw [ho]
    simp (disch := omega) only [S.f, S.cw (show 1 < 169 by decide), R.m, m_s (hs_in hs), h_tft S, Option.map, cond_true, cond_false, bI_ok, bI_er, bV_ok, bV_er, bR_ok, bR_er, bD_ok, bD_er, bF_ok, bF_er, thr_ap, cl_nI, lt_nI, le_nI, eq_nI, m1_lt, nI_m1, m1_nI, nI_lt_m1, add_nI, sub_nI, addm_nI, z_addm, z_subm, mul_nI, fit1_0, fit1_1, fit2_n, HI_wI, HK_wI, HL_wI, HR_wI, ckK_wI, chI_wI, sI_wI, wI_wI, lz0, lz1, lz2, lz3, lz4, lz5, lz6, lz7, lz8, lz9, lz10, lz12, lz13, lz16, lz17, lz20, lz21, lz23, lz26, lz30, lz32, lz35, lz40, lz45, lz48, lz57, lz58, lz59, lz60, lz61, lz63, lz64, lz97, lz99, lz100, lz110, lz111, lz126, lz129, lz132, lz133, lz166, lz169, lz255, lz999, lz1183, lz1800, Nat.reduceAdd, Nat.reduceLT, Nat.reduceEqDiff, Nat.not_lt_zero, Nat.lt_irrefl, ↓reduceIte, Nat.zero_add, Nat.add_zero, ne_eq, not_true_eq_false, not_false_eq_true, reduceCtorEq]
  | some j =>
    rw [hl] at hsp
    have hj := hsp.1
    have hk := of_k (S.t 0) (R.t 0) hj
    have e3 : mk (HI (tH h 0) 242) j = mk (HI h 242) j := congrArg (fun x : Int32 => x.toNatClampNeg) (tH_c h 0 242 _ (by decide))
    rw [e3] at hk
    simp (disch := omega) only [S.f, (S.t 0).f, S.cw (show 1 < 169 by decide), R.m, m_s (hs_in hs), h_ttt S, hk, Option.map, oI_some, Nat.succ_ne_self, cond_true, cond_false, bI_ok, bI_er, bV_ok, bV_er, bR_ok, bR_er, bD_ok, bD_er, bF_ok, bF_er, thr_ap, cl_nI, lt_nI, le_nI, eq_nI, m1_lt, nI_m1, m1_nI, nI_lt_m1, add_nI, sub_nI, addm_nI, z_addm, z_subm, mul_nI, fit1_0, fit1_1, fit2_n, HI_wI, HK_wI, HL_wI, HR_wI, ckK_wI, chI_wI, sI_wI, wI_wI, lz0, lz1, lz2, lz3, lz4, lz5, lz6, lz7, lz8, lz9, lz10, lz12, lz13, lz16, lz17, lz20, lz21, lz23, lz26, lz30, lz32, lz35, lz40, lz45, lz48, lz57, lz58, lz59, lz60, lz61, lz63, lz64, lz97, lz99, lz100, lz110, lz111, lz126, lz129, lz132, lz133, lz166, lz169, lz255, lz999, lz1183, lz1800, Nat.reduceAdd, Nat.reduceLT, Nat.reduceEqDiff, Nat.not_lt_zero, Nat.lt_irrefl, ↓reduceIte, Nat.zero_add, Nat.add_zero, ne_eq, not_true_eq_false, not_false_eq_true, reduceCtorEq]
theorem oldestM_f (S : MdS h) (R : RM (HI h 242) A D) (x : Int32) (hx : inr 97 99 x = false) : CL 267 [.ref 241, .int x] h = some (.ok (.int (nI 0)), tH h 1) := by
  have m30 := R.m30
  obtain ⟨v, hgo⟩ := oldestM_go S R x
  rw [hgo, e267_4]
  have hsp := bm_spec (fun j => decide (nI (97 + ms (HI h 242) j) = x)) (fun j => D (ms (HI h 242) j) (mk (HI h 242) j)) (tot A)
  cases hl : bm (fun j => decide (nI (97 + ms (HI h 242) j) = x)) (fun j => D (ms (HI h 242) j) (mk (HI h 242) j)) (tot A) with
  | none =>
    have ho : oI none = -nI 1 := rfl
    rw [ho]
    simp (disch := omega) only [S.f, S.cw (show 1 < 169 by decide), R.m, m_sf hx, h_fft S, cond_true, cond_false, bI_ok, bI_er, bV_ok, bV_er, bR_ok, bR_er, bD_ok, bD_er, bF_ok, bF_er, thr_ap, cl_nI, lt_nI, le_nI, eq_nI, m1_lt, nI_m1, m1_nI, nI_lt_m1, add_nI, sub_nI, addm_nI, z_addm, z_subm, mul_nI, fit1_0, fit1_1, fit2_n, HI_wI, HK_wI, HL_wI, HR_wI, ckK_wI, chI_wI, sI_wI, wI_wI, lz0, lz1, lz2, lz3, lz4, lz5, lz6, lz7, lz8, lz9, lz10, lz12, lz13, lz16, lz17, lz20, lz21, lz23, lz26, lz30, lz32, lz35, lz40, lz45, lz48, lz57, lz58, lz59, lz60, lz61, lz63, lz64, lz97, lz99, lz100, lz110, lz111, lz126, lz129, lz132, lz133, lz166, lz169, lz255, lz999, lz1183, lz1800, Nat.reduceAdd, Nat.reduceLT, Nat.reduceEqDiff, Nat.not_lt_zero, Nat.lt_irrefl, ↓reduceIte, Nat.zero_add, Nat.add_zero, ne_eq, not_true_eq_false, not_false_eq_true, reduceCtorEq]
  | some j =>
    rw [hl] at hsp
    have hj := hsp.1
    simp (disch := omega) only [S.f, (S.t 0).f, S.cw (show 1 < 169 by decide), R.m, m_sf hx, h_ftt S, oI_some, Nat.succ_ne_self, cond_true, cond_false, bI_ok, bI_er, bV_ok, bV_er, bR_ok, bR_er, bD_ok, bD_er, bF_ok, bF_er, thr_ap, cl_nI, lt_nI, le_nI, eq_nI, m1_lt, nI_m1, m1_nI, nI_lt_m1, add_nI, sub_nI, addm_nI, z_addm, z_subm, mul_nI, fit1_0, fit1_1, fit2_n, HI_wI, HK_wI, HL_wI, HR_wI, ckK_wI, chI_wI, sI_wI, wI_wI, lz0, lz1, lz2, lz3, lz4, lz5, lz6, lz7, lz8, lz9, lz10, lz12, lz13, lz16, lz17, lz20, lz21, lz23, lz26, lz30, lz32, lz35, lz40, lz45, lz48, lz57, lz58, lz59, lz60, lz61, lz63, lz64, lz97, lz99, lz100, lz110, lz111, lz126, lz129, lz132, lz133, lz166, lz169, lz255, lz999, lz1183, lz1800, Nat.reduceAdd, Nat.reduceLT, Nat.reduceEqDiff, Nat.not_lt_zero, Nat.lt_irrefl, ↓reduceIte, Nat.zero_add, Nat.add_zero, ne_eq, not_true_eq_false, not_false_eq_true, reduceCtorEq]
end MQ
