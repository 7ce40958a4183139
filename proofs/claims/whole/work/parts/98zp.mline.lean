/-! LINES: digits; the reference's line -/
/-- how many digits -/
def dsz (v : Nat) : Nat := (fst? (fun m => decide (v < 10 ^ (m + 1))) 10).getD 9 + 1
/-- the r last digits -/
def digR (v : Nat) : Nat → List Nat
  | 0 => []
  | r + 1 => (48 + v / 10 ^ r % 10) :: digR v r
def dig (v : Nat) : List Nat := digR v (dsz v)
theorem dsz_spec {v : Nat} (hv : v < 1073741824) : 1 ≤ dsz v ∧ dsz v ≤ 10 ∧ v < 10 ^ dsz v ∧ ∀ k, k + 1 < dsz v → 10 ^ (k + 1) ≤ v := by
  unfold dsz
  cases hq : fst? (fun m => decide (v < 10 ^ (m + 1))) 10 with
  | none =>
    have := of_decide_eq_false (fst_none.mp hq 9 (by decide))
    omega
  | some m =>
    obtain ⟨h1, h2, h3⟩ := fst_some.mp hq
    refine ⟨by show 1 ≤ m + 1; omega, by show m + 1 ≤ 10; omega, of_decide_eq_true h2, fun k hk => ?_⟩
    have hk : k + 1 < m + 1 := hk
    have := of_decide_eq_false (h3 k (by omega))
    omega
theorem digR_len (v : Nat) : ∀ r, (digR v r).length = r
  | 0 => rfl
  | r + 1 => congrArg (· + 1) (digR_len v r)
theorem dig_len {v : Nat} (hv : v < 1073741824) : 1 ≤ (dig v).length ∧ (dig v).length ≤ 10 := by
  have := dsz_spec hv
  unfold dig
  rw [digR_len]
  omega
theorem p10_le {r : Nat} (h : r ≤ 9) : 10 ^ r ≤ 1000000000 ∧ 1 ≤ 10 ^ r := ⟨Nat.pow_le_pow_right (by decide) h, Nat.one_le_pow _ _ (by decide)⟩
theorem dsz_le {v r : Nat} (hr : r ≤ 9) (hr1 : 1 ≤ r) (hv : v < 10 ^ r) : dsz v ≤ r := by
  have := p10_le hr
  by_cases q : dsz v ≤ r
  · exact q
  · have h1 := (dsz_spec (v := v) (by omega)).2.2.2 (r - 1) (by omega)
    rw [Nat.sub_add_cancel hr1] at h1
    omega
theorem dig_len3 {v : Nat} (hv : v < 1000) : (dig v).length ≤ 3 := by
  unfold dig
  rw [digR_len]
  exact dsz_le (by decide) (by decide) hv
theorem dig_len2 {v : Nat} (hv : v < 100) : (dig v).length ≤ 2 := by
  unfold dig
  rw [digR_len]
  exact dsz_le (by decide) (by decide) hv
def LM (f : Nat → Nat → Int32) (L : List Nat) : Prop := L.length ≤ 160 ∧ ∀ i, i < L.length → f 251 i = nI (L.getD i 0)
def FLm (f f' : Nat → Nat → Int32) : Prop := ∀ a y, a ≠ 251 → f' a y = f a y
theorem FLm.trans {f g k : Nat → Nat → Int32} (H : FLm f g) (K : FLm g k) : FLm f k := fun a y h => (K a y h).trans (H a y h)
section LI
variable {h : Hp}
theorem MdS.lc (S : MdS h) {i : Nat} (hi : i < 160) : chI h 251 100 (nI i) = true := chI_nI S.2.2.2.2.2.2.2.2.2.2.2.1.1 S.2.2.2.2.2.2.2.2.2.2.2.1.2 hi (by decide)
theorem putc_ok (S : MdS h) {f : Nat → Nat → Int32} {L : List Nat} (R : LM f L) {c : Nat} (hl : L.length < 160) {n m : Nat} (hn : n = L.length) (hm : m = n + 1) : ∃ f', CL 316 [.ref 241, .int (nI n), .int (nI c)] (wI h f) = some (.ok (.int (nI m)), wI h f') ∧ LM f' (L ++ [c]) ∧ FLm f f' := by
  subst hn hm
  refine ⟨u2 f 251 L.length (nI c), ?_, ⟨by rw [List.length_append, List.length_singleton]; omega, fun i hi => ?_⟩, fun a y q => w2_ne (by omega)⟩
  · rw [e316]
    simp (disch := omega) only [S.f, S.lc hl, cond_true, cond_false, bI_ok, bI_er, bV_ok, bV_er, bR_ok, bR_er, bD_ok, bD_er, bF_ok, bF_er, thr_ap, cl_nI, lt_nI, le_nI, eq_nI, m1_lt, nI_m1, m1_nI, nI_lt_m1, add_nI, sub_nI, addm_nI, z_addm, z_subm, mul_nI, fit1_0, fit1_1, fit2_n, HI_wI, HK_wI, HL_wI, HR_wI, ckK_wI, chI_wI, sI_wI, wI_wI, lz0, lz1, lz2, lz3, lz4, lz5, lz6, lz7, lz8, lz9, lz10, lz12, lz13, lz16, lz17, lz20, lz21, lz23, lz26, lz30, lz32, lz35, lz40, lz45, lz48, lz57, lz58, lz59, lz60, lz61, lz63, lz64, lz97, lz99, lz100, lz110, lz111, lz126, lz129, lz132, lz133, lz166, lz169, lz255, lz999, lz1183, lz1800, Nat.reduceAdd, Nat.reduceLT, Nat.reduceEqDiff, Nat.not_lt_zero, Nat.lt_irrefl, ↓reduceIte, Nat.zero_add, Nat.add_zero, ne_eq, not_true_eq_false, not_false_eq_true, reduceCtorEq]
  · rw [List.length_append, List.length_singleton] at hi
    by_cases q : i = L.length
    · rw [q, w2_eq, List.getD_eq_getElem?_getD, List.getElem?_append_right (Nat.le_refl _), Nat.sub_self]
      rfl
    · rw [w2_ne (by omega), R.2 i (by omega), List.getD_eq_getElem?_getD, List.getD_eq_getElem?_getD, List.getElem?_append_left (by omega)]
theorem wn_loop (S : MdS h) {v : Nat} (hv : v < 1073741824) (a1 a4 : Int32) : ∀ (r : Nat) (M : List Nat) (f : Nat → Nat → Int32), LM f M → M.length + r ≤ 160 → r ≤ 10 → ∃ f', RF 317 28 [.ref 241, .int a1, .int (nI v), .int (nI M.length), .int a4, .int (nI (if r = 0 then 0 else 10 ^ (r - 1)))] [] (wI h f) = some (.ok (.int (nI (M.length + r))), wI h f') ∧ LM f' (M ++ digR v r) ∧ FLm f f' := by
  intro r
  induction r with
  | zero =>
    intro M f R h1 h2
    refine ⟨f, ?_, ?_, fun _ _ _ => rfl⟩
    · rw [e317_28]
      simp (disch := omega) only [pos_nI, cond_true, cond_false, bI_ok, bI_er, bV_ok, bV_er, bR_ok, bR_er, bD_ok, bD_er, bF_ok, bF_er, thr_ap, cl_nI, lt_nI, le_nI, eq_nI, m1_lt, nI_m1, m1_nI, nI_lt_m1, add_nI, sub_nI, addm_nI, z_addm, z_subm, mul_nI, fit1_0, fit1_1, fit2_n, HI_wI, HK_wI, HL_wI, HR_wI, ckK_wI, chI_wI, sI_wI, wI_wI, lz0, lz1, lz2, lz3, lz4, lz5, lz6, lz7, lz8, lz9, lz10, lz12, lz13, lz16, lz17, lz20, lz21, lz23, lz26, lz30, lz32, lz35, lz40, lz45, lz48, lz57, lz58, lz59, lz60, lz61, lz63, lz64, lz97, lz99, lz100, lz110, lz111, lz126, lz129, lz132, lz133, lz166, lz169, lz255, lz999, lz1183, lz1800, Nat.reduceAdd, Nat.reduceLT, Nat.reduceEqDiff, Nat.not_lt_zero, Nat.lt_irrefl, ↓reduceIte, Nat.zero_add, Nat.add_zero, ne_eq, not_true_eq_false, not_false_eq_true, reduceCtorEq]
    · show LM f (M ++ [])
      rw [List.append_nil]
      exact R
  | succ r ih =>
    intro M f R h1 h2
    obtain ⟨p1, p2⟩ := p10_le (show r ≤ 9 by omega)
    have hd : v / 10 ^ r ≤ v := Nat.div_le_self _ _
    obtain ⟨g, g1, g2, g3⟩ := putc_ok S R (c := 48 + v / 10 ^ r % 10) (by omega) rfl rfl
    have e10 : 10 ^ r / 10 = if r = 0 then 0 else 10 ^ (r - 1) := by
      cases r with
      | zero => rfl
      | succ q =>
        rw [if_neg (Nat.succ_ne_zero q), Nat.pow_succ, Nat.mul_div_cancel _ (by decide), Nat.add_sub_cancel]
    have hlen : M.length + 1 = (M ++ [48 + v / 10 ^ r % 10]).length := by rw [List.length_append, List.length_singleton]
    obtain ⟨f', f1, f2, f3⟩ := ih (M ++ [48 + v / 10 ^ r % 10]) g g2 (by omega) (by omega)
    rw [← hlen] at f1
    rw [← e10] at f1
    refine ⟨f', ?_, ?_, g3.trans f3⟩
    · have hm := mod_nI (a := v / 10 ^ r) (b := 10) (by omega) (by decide)
      have hb : v / 10 ^ r % 10 < 10 := Nat.mod_lt _ (by decide)
      rw [if_neg (Nat.succ_ne_zero r), Nat.add_sub_cancel, e317_28]
      generalize 10 ^ r = P at *
      have hmm : v / P - v / P / 10 * 10 = v / P % 10 := by omega
      simp (disch := omega) only [S.f, pos_nI, show 0 < P by omega, show ¬(P = 0) by omega, z_nI, div_nI, hmm, g1, f1, show ¬(10 = 0) by decide, cond_true, cond_false, bI_ok, bI_er, bV_ok, bV_er, bR_ok, bR_er, bD_ok, bD_er, bF_ok, bF_er, thr_ap, cl_nI, lt_nI, le_nI, eq_nI, m1_lt, nI_m1, m1_nI, nI_lt_m1, add_nI, sub_nI, addm_nI, z_addm, z_subm, mul_nI, fit1_0, fit1_1, fit2_n, HI_wI, HK_wI, HL_wI, HR_wI, ckK_wI, chI_wI, sI_wI, wI_wI, lz0, lz1, lz2, lz3, lz4, lz5, lz6, lz7, lz8, lz9, lz10, lz12, lz13, lz16, lz17, lz20, lz21, lz23, lz26, lz30, lz32, lz35, lz40, lz45, lz48, lz57, lz58, lz59, lz60, lz61, lz63, lz64, lz97, lz99, lz100, lz110, lz111, lz126, lz129, lz132, lz133, lz166, lz169, lz255, lz999, lz1183, lz1800, Nat.reduceAdd, Nat.reduceLT, Nat.reduceEqDiff, Nat.not_lt_zero, Nat.lt_irrefl, ↓reduceIte, Nat.zero_add, Nat.add_zero, ne_eq, not_true_eq_false, not_false_eq_true, reduceCtorEq]
      rw [show M.length + 1 + r = M.length + (r + 1) by omega]
    · rw [List.append_assoc] at f2
      exact f2
theorem wn_ok (S : MdS h) {f : Nat → Nat → Int32} {L : List Nat} (R : LM f L) {v : Nat} (hv : v < 1073741824) (hl : L.length + 10 ≤ 160) {n m : Nat} (hn : n = L.length) (hm : m = n + (dig v).length) : ∃ f', CL 317 [.ref 241, .int (nI n), .int (nI v)] (wI h f) = some (.ok (.int (nI m)), wI h f') ∧ LM f' (L ++ dig v) ∧ FLm f f' := by
  subst hn
  obtain ⟨s1, s2, s3, s4⟩ := dsz_spec hv
  have up : ∀ d k, k + d + 1 = dsz v → RF 317 5 [.ref 241, .int (nI L.length), .int (nI v), .int (nI L.length), .int (nI (10 ^ k)), .null] [] (wI h f) = RF 317 28 [.ref 241, .int (nI L.length), .int (nI v), .int (nI L.length), .int (nI (10 ^ (dsz v - 1))), .int (nI (10 ^ (dsz v - 1)))] [] (wI h f) := by
    intro d
    induction d with
    | zero =>
      intro k hk
      have hk' : dsz v - 1 = k := by omega
      rw [hk', e317_5]
      have hp : v < 10 ^ (k + 1) := by rw [show k + 1 = dsz v by omega]; exact s3
      obtain ⟨p1, p2⟩ := p10_le (show k ≤ 9 by omega)
      have hq : ¬(9 < v / 10 ^ k) := by
        rw [Nat.pow_succ, Nat.mul_comm] at hp
        have := (Nat.div_lt_iff_lt_mul (show 0 < 10 ^ k by omega)).mpr hp
        omega
      have hd : v / 10 ^ k ≤ v := Nat.div_le_self _ _
      generalize 10 ^ k = P at *
      simp (disch := omega) only [z_nI, show ¬(P = 0) by omega, div_nI, hq, cond_true, cond_false, bI_ok, bI_er, bV_ok, bV_er, bR_ok, bR_er, bD_ok, bD_er, bF_ok, bF_er, thr_ap, cl_nI, lt_nI, le_nI, eq_nI, m1_lt, nI_m1, m1_nI, nI_lt_m1, add_nI, sub_nI, addm_nI, z_addm, z_subm, mul_nI, fit1_0, fit1_1, fit2_n, HI_wI, HK_wI, HL_wI, HR_wI, ckK_wI, chI_wI, sI_wI, wI_wI, lz0, lz1, lz2, lz3, lz4, lz5, lz6, lz7, lz8, lz9, lz10, lz12, lz13, lz16, lz17, lz20, lz21, lz23, lz26, lz30, lz32, lz35, lz40, lz45, lz48, lz57, lz58, lz59, lz60, lz61, lz63, lz64, lz97, lz99, lz100, lz110, lz111, lz126, lz129, lz132, lz133, lz166, lz169, lz255, lz999, lz1183, lz1800, Nat.reduceAdd, Nat.reduceLT, Nat.reduceEqDiff, Nat.not_lt_zero, Nat.lt_irrefl, ↓reduceIte, Nat.zero_add, Nat.add_zero, ne_eq, not_true_eq_false, not_false_eq_true, reduceCtorEq]
    | succ d ih =>
      intro k hk
      obtain ⟨p1, p2⟩ := p10_le (show k ≤ 9 by omega)
      have hp := s4 k (by omega)
      have hq : 9 < v / 10 ^ k := by
        rw [Nat.pow_succ, Nat.mul_comm] at hp
        have := (Nat.le_div_iff_mul_le (show 0 < 10 ^ k by omega)).mpr hp
        omega
      have hd : v / 10 ^ k ≤ v := Nat.div_le_self _ _
      have e := ih (k + 1) (by omega)
      rw [Nat.pow_succ] at e
      rw [e317_5]
      generalize 10 ^ k = P at *
      simp (disch := omega) only [z_nI, show ¬(P = 0) by omega, div_nI, hq, e, cond_true, cond_false, bI_ok, bI_er, bV_ok, bV_er, bR_ok, bR_er, bD_ok, bD_er, bF_ok, bF_er, thr_ap, cl_nI, lt_nI, le_nI, eq_nI, m1_lt, nI_m1, m1_nI, nI_lt_m1, add_nI, sub_nI, addm_nI, z_addm, z_subm, mul_nI, fit1_0, fit1_1, fit2_n, HI_wI, HK_wI, HL_wI, HR_wI, ckK_wI, chI_wI, sI_wI, wI_wI, lz0, lz1, lz2, lz3, lz4, lz5, lz6, lz7, lz8, lz9, lz10, lz12, lz13, lz16, lz17, lz20, lz21, lz23, lz26, lz30, lz32, lz35, lz40, lz45, lz48, lz57, lz58, lz59, lz60, lz61, lz63, lz64, lz97, lz99, lz100, lz110, lz111, lz126, lz129, lz132, lz133, lz166, lz169, lz255, lz999, lz1183, lz1800, Nat.reduceAdd, Nat.reduceLT, Nat.reduceEqDiff, Nat.not_lt_zero, Nat.lt_irrefl, ↓reduceIte, Nat.zero_add, Nat.add_zero, ne_eq, not_true_eq_false, not_false_eq_true, reduceCtorEq]
  obtain ⟨f', f1, f2, f3⟩ := wn_loop S hv (nI L.length) (nI (10 ^ (dsz v - 1))) (dsz v) L f R (by omega) s2
  rw [if_neg (show ¬(dsz v = 0) by omega)] at f1
  refine ⟨f', ?_, f2, f3⟩
  have e := up (dsz v - 1) 0 (by omega)
  rw [show (dig v).length = dsz v from digR_len v _] at hm
  rw [e317, show (1 : Int32) = nI (10 ^ 0) from rfl, e, f1, hm]
end LI
