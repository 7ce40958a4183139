/-! THE LAW: all records -/
section LAW13
variable {N : Nat} {xs : Nat → Int32} {h g : Hp} {b : Bk} {y : Nat}
theorem rec_303 (K : LK N xs h b y) {s p k : Nat} (hs : s < 3) (hk : k < 1000) (h0 : 0 < kA b s k) (hr : rkn (kA b) s k = p) (l1 l2 l5 l6 l7 w : Int32) : ∃ g, RF 240 303 [.ref 31, .int l1, .int l2, .int (1 : Int32), .int (nI (97 + s)), .int l5, .int l6, .int l7, .int (nI p), .int (nI k)] [.int w] h = RF 240 242 [.ref 31, .int l1, .int l2, .int (1 : Int32), .int (nI (97 + s)), .int l5, .int l6, .int w, .int (nI (p + 1)), .int (nI k)] [] g ∧ Ls N xs b y h g 28 := by
  obtain ⟨g, r1, r2⟩ := rec_line K hs hk h0 l1 l2 (1 : Int32) l5 l6 w (nI p)
  rw [show (nI p + (1 : Int32)) = nI (p + 1) from add_nI p 1] at r1
  have hp : p < numA (kA b) s := by
    have a1 := rkn_s h0
    have a2 := rkn_m (A := kA b) (s := s) (show k + 1 ≤ 1000 by omega)
    have a3 : rkn (kA b) s 1000 = numA (kA b) s := rfl
    omega
  have hn := num_le (kA b) s
  refine ⟨g, ?_, r2⟩
  rw [e240_303, if_neg (show ¬((1 : Int32) = 0) by decide), K.k8, hasRecord_ok K.q K.rk hs hk, decide_eq_true h0]
  simp only [bI_ok, cond_true]
  rw [if_neg (show ¬(nI (b2n true) = 0) by decide)]
  by_cases q : p = 0
  · subst q
    rw [if_pos (show nI 0 = (0 : Int32) from rfl)]
    exact r1
  · rw [if_neg (show ¬(nI p = (0 : Int32)) by rw [eqz_nI (by omega)]; exact q), K.k8]
    obtain ⟨k', k1, k2, k3, k4⟩ := ka_at (A := kA b) (s := s) (r := p - 1) (by omega)
    have k3 : rkn (kA b) s k' = p - 1 := k3
    have c1 := keyAt_ok K.q K.rk hs (nI (p - 1))
    rw [k4] at c1
    have hlt : k' < k := by
      by_cases z : k' < k
      · exact z
      · have a2 := rkn_m (A := kA b) (s := s) (show k ≤ k' by omega)
        omega
    rw [show (nI p - (1 : Int32)) = nI (p - 1) from sub_nI (b := 1) (by omega), c1]
    simp only [bI_ok, cond_true]
    rw [if_pos (show nI k' < nI k by rw [lt_nI (by omega) (by omega)]; exact hlt)]
    exact r1
theorem rec_loop {s : Nat} (hs : s < 3) (l1 l2 : Int32) : ∀ (d p m : Nat) (h : Hp) (v9 : Value), p + d = numA (kA b) s → LK N xs h b y → m ≤ 1000 → rkn (kA b) s m = p → ∃ g w7 w9, RF 240 242 [.ref 31, .int l1, .int l2, .int (1 : Int32), .int (nI (97 + s)), .int (nI (numA (kA b) s)), .int (nI (sumN (fun k => kA b s k) m)), .int (olv (olA (kA b) (kD b) s m)), .int (nI p), v9] [] h = RF 240 168 [.ref 31, .int l1, .int (l2 + nI (suA (kA b) s)), .int (1 : Int32), .int (nI (97 + (s + 1))), .int (nI (numA (kA b) s)), .int (nI (suA (kA b) s)), .int w7, .int (nI (numA (kA b) s)), w9] [] g ∧ Ls N xs b y h g (28 * d + 1) := by
  have hn := num_le (kA b) s
  intro d
  induction d with
  | zero =>
    intro p m h v9 hp K hm hr
    have ep : p = numA (kA b) s := by omega
    subst ep
    have hz : ∀ j, m ≤ j → j < 1000 → kA b s j = 0 := fun j h1 h2 => rkn_z (hr.trans rfl : rkn (kA b) s m = rkn (kA b) s 1000) h1 h2
    have e1 : sumN (fun k => kA b s k) m = suA (kA b) s := (sumN_cut hm hz).symm
    have e2 : olA (kA b) (kD b) s m = olA (kA b) (kD b) s 1000 := (olA_cut hm hz).symm
    obtain ⟨g, a1, a2, -⟩ := (ask_ol K hs (0 : Int32) (97 : Int32)).to K
    refine ⟨g, olv (olA (kA b) (kD b) s 1000), v9, ?_, a2.up (by omega)⟩
    rw [e1, e2, e240_242, if_neg (show ¬(nI (numA (kA b) s) < nI (numA (kA b) s)) by rw [lt_nI (by omega) (by omega)]; omega), if_neg (show ¬((1 : Int32) = 0) by decide), K.k8, totalOf_ok K.q K.rk hs]
    simp only [bI_ok, cond_true, ↓reduceIte, a1]
    rw [e240_464, show (nI (97 + s) + (1 : Int32)) = nI (97 + (s + 1)) from add_nI (97 + s) 1, i2c_nI (by omega)]
  | succ d ih =>
    intro p m h v9 hp K hm hr
    obtain ⟨k, k1, k2, k3, k4, k5, k6⟩ := nx_key hr (show p < numA (kA b) s by omega)
    have c1 := keyAt_ok K.q K.rk hs (nI p)
    rw [k4] at c1
    obtain ⟨ha9, hd9⟩ := K.am9 hs k1 k2
    have e1 : sumN (fun k => kA b s k) m + kA b s k = sumN (fun k => kA b s k) (k + 1) := by
      show _ = sumN (fun k => kA b s k) k + kA b s k
      rw [sumN_cut k5 k6]
    have e2 : olA (kA b) (kD b) s k = olA (kA b) (kD b) s m := olA_cut k5 k6
    have hr' : rkn (kA b) s (k + 1) = p + 1 := by rw [rkn_s k2, k3]
    have fin : ∀ w : Int32, w = olv (olA (kA b) (kD b) s (k + 1)) → ∃ g w7 w9, RF 240 303 [.ref 31, .int l1, .int l2, .int (1 : Int32), .int (nI (97 + s)), .int (nI (numA (kA b) s)), .int (nI (sumN (fun k => kA b s k) (k + 1))), .int (olv (olA (kA b) (kD b) s m)), .int (nI p), .int (nI k)] [.int w] h = RF 240 168 [.ref 31, .int l1, .int (l2 + nI (suA (kA b) s)), .int (1 : Int32), .int (nI (97 + (s + 1))), .int (nI (numA (kA b) s)), .int (nI (suA (kA b) s)), .int w7, .int (nI (numA (kA b) s)), w9] [] g ∧ Ls N xs b y h g (28 * (d + 1) + 1) := by
      intro w hw
      subst hw
      obtain ⟨g1, r1, r2⟩ := rec_303 K hs k1 k2 k3 l1 l2 (nI (numA (kA b) s)) (nI (sumN (fun k => kA b s k) (k + 1))) (olv (olA (kA b) (kD b) s m)) (olv (olA (kA b) (kD b) s (k + 1)))
      obtain ⟨g2, w7, w9, i1, i2⟩ := ih (p + 1) (k + 1) g1 (.int (nI k)) (by omega) r2.1 (by omega) hr'
      exact ⟨g2, w7, w9, r1.trans i1, (r2.tr i2).up (by omega)⟩
    rw [e240_242, if_pos (show nI p < nI (numA (kA b) s) by rw [lt_nI (by omega) (by omega)]; omega), K.k8, c1]
    simp only [bI_ok, cond_true, K.k8, amountOf_ok K.q K.rk hs k1 k2]
    rw [add_nI, e1]
    cases q : olA (kA b) (kD b) s m with
    | none =>
      rw [if_pos (show olv none < 0 by decide)]
      rw [← q]
      refine fin (nI k) ?_
      show _ = olv (olA (kA b) (kD b) s (k + 1))
      simp only [olA, e2, q, k2, ↓reduceIte, olv]
    | some k0 =>
      obtain ⟨o1, o2⟩ := ol_some q
      obtain ⟨-, hd0⟩ := K.am9 hs (show k0 < 1000 by omega) o2
      rw [if_neg (show ¬(olv (some k0) < 0) by
        show ¬(nI k0 < 0)
        exact nI_pos (by omega))]
      rw [dayOf_ok K.q K.rk hs k1 k2]
      simp only [bI_ok, cond_true, K.k8]
      rw [show CL 62 [.ref 31, .int (nI (97 + s)), .int (olv (some k0))] h = _ from dayOf_ok K.q K.rk hs (show k0 < 1000 by omega) o2]
      simp only [bI_ok]
      by_cases z : kD b s k < kD b s k0
      · rw [if_pos (show nI (kD b s k) < nI (kD b s k0) by rw [lt_nI (by omega) (by omega)]; exact z)]
        rw [← q]
        refine fin (nI k) ?_
        simp only [olA, e2, q, k2, z, and_self, ↓reduceIte, olv]
      · rw [if_neg (show ¬(nI (kD b s k) < nI (kD b s k0)) by rw [lt_nI (by omega) (by omega)]; exact z)]
        rw [← q]
        refine fin (olv (olA (kA b) (kD b) s m)) ?_
        simp only [olA, e2, q, z, and_false, ↓reduceIte, olv]
def cnN (A : AF) (s : Nat) : Nat := sumN (fun s => numA A s) s
def csN (A : AF) (s : Nat) : Nat := sumN (fun s => suA A s) s
theorem LK.t30 (K : LK N xs h b y) : tot (kA b) ≤ 30 := by
  have a1 := K.rk.t.N.m30
  rw [K.rk.t.m] at a1
  omega
theorem rec_all {c : Nat} (H : ∀ h, LK N xs h b y → ∃ g, CL 204 [.ref 31] h = some (.ok (.int (1 : Int32)), g) ∧ Ls N xs b y h g c) : ∀ (d s : Nat) (h : Hp) (v5 v6 v7 v8 v9 : Value), s + d = 3 → LK N xs h b y → ∃ g, RF 240 168 [.ref 31, .int (nI (cnN (kA b) s)), .int (nI (csN (kA b) s)), .int (1 : Int32), .int (nI (97 + s)), v5, v6, v7, v8, v9] [] h = some (.ok (.int (1 : Int32)), g) ∧ Ls N xs b y h g (28 * (tot (kA b) - cnN (kA b) s) + 3 * d + c) := by
  intro d
  induction d with
  | zero =>
    intro s h v5 v6 v7 v8 v9 hs K
    have es : s = 3 := by omega
    subst es
    have t30 := K.t30
    have e1 : cnN (kA b) 3 = tot (kA b) := by
      rw [tot_num]
      show 0 + numA (kA b) 0 + numA (kA b) 1 + numA (kA b) 2 = _
      omega
    have e2 : csN (kA b) 3 = allA (kA b) := by
      show 0 + suA (kA b) 0 + suA (kA b) 1 + suA (kA b) 2 = suA (kA b) 0 + suA (kA b) 1 + suA (kA b) 2
      omega
    have ha : allA (kA b) < 100000 := by
      have hs : ∀ s, s < 3 → suA (kA b) s ≤ 30 * 99 := fun s hs => by
        rw [← K.rk.t.su hs]
        have n30 := K.rk.t.n30
        have := sumN_bd (f := fun r => ta (HI h) (32 + 1) s r) (n := tn (HI h) (32 + 1)) (b := 99) (fun r hr => by
          have := K.rk.t.N.a9 hs (show r < 30 by omega)
          omega)
        have h2 : tn (HI h) (32 + 1) * 99 ≤ 30 * 99 := Nat.mul_le_mul_right 99 (by omega)
        omega
      have h0 := hs 0 (by decide)
      have h1 := hs 1 (by decide)
      have h2 := hs 2 (by decide)
      unfold allA
      omega
    rw [e1, e2, e240_168, if_pos (show (99 : Int32) < nI (97 + 3) by decide), if_neg (show ¬((1 : Int32) = 0) by decide), K.k8, recordCount_ok K.q K.rk]
    simp only [bI_ok, cond_true, ↓reduceIte]
    rw [if_neg (show ¬((30 : Int32) < nI (tot (kA b))) by rw [show ((30 : Int32) < nI (tot (kA b))) = (30 < tot (kA b)) from lt_nI (by decide) (by omega)]; omega)]
    obtain ⟨g, c1, c2⟩ := H h K
    have fin : ∃ g, RF 240 510 [.ref 31, .int (nI (tot (kA b))), .int (nI (allA (kA b))), .int (1 : Int32), .int (nI (97 + 3)), v5, v6, v7, v8, v9] [] h = some (.ok (.int (1 : Int32)), g) ∧ Ls N xs b y h g (28 * (tot (kA b) - tot (kA b)) + 3 * 0 + c) := by
      refine ⟨g, ?_, c2.up (by omega)⟩
      rw [e240_510, c1]
      simp only [bI_ok]
      rw [if_neg (show ¬((1 : Int32) = 0) by decide)]
      rfl
    by_cases z : tot (kA b) = 0
    · rw [if_pos (show nI (tot (kA b)) = (0 : Int32) by rw [eqz_nI (by omega)]; exact z)]
      exact fin
    · rw [if_neg (show ¬(nI (tot (kA b)) = (0 : Int32)) by rw [eqz_nI (by omega)]; exact z), K.k8, mean_t K.q K.rk (by omega) t30 ha]
      have hn := dv_nn (a := allA (kA b)) (m := tot (kA b)) (by omega) z
      have hk := ok64 hn
      simp only [bD_ok, cond_true]
      rw [dv_eq (by omega) (by omega), if_pos (of_eq_true hk), cmp_self hn, if_pos (show (Op.cmpValue (some Ordering.eq) .l) = 0 by decide)]
      exact fin
  | succ d ih =>
    intro s h v5 v6 v7 v8 v9 hs K
    have hs3 : s < 3 := by omega
    have hn := num_le (kA b) s
    have hn30 : numA (kA b) s ≤ 30 := by
      have t30 := K.t30
      rw [tot_num] at t30
      rcases (show s = 0 ∨ s = 1 ∨ s = 2 by omega) with rfl | rfl | rfl <;> omega
    have p1 : inN (numA (kA b) s) (nI (numA (kA b) s)) = false := by
      unfold inN
      rw [decide_eq_false (show ¬(nI (numA (kA b) s) < nI (numA (kA b) s)) by rw [lt_nI (by omega) (by omega)]; omega), Bool.and_false]
    have p2 : inN (numA (kA b) s) (-1 : Int32) = false := by
      unfold inN
      rw [decide_eq_false (by decide), Bool.false_and]
    have q1 := ask_kn K hs3 p1 (97 : Int32)
    have q2 := ask_kn K.th hs3 p2 (97 : Int32)
    have K2 : LK N xs (hthr (hthr h)) b y := K.th.th
    obtain ⟨g, w7, w9, r1, r2⟩ := rec_loop hs3 (nI (cnN (kA b) (s + 1))) (nI (csN (kA b) s)) (numA (kA b) s) 0 0 (hthr (hthr h)) v9 (Nat.zero_add _) K2 (Nat.zero_le _) rfl
    have e9 : cnN (kA b) (s + 1) = cnN (kA b) s + numA (kA b) s := rfl
    have e8 : cnN (kA b) (s + 1) ≤ tot (kA b) := by
      rw [tot_num]
      rcases (show s = 0 ∨ s = 1 ∨ s = 2 by omega) with rfl | rfl | rfl
      · show 0 + numA (kA b) 0 ≤ _
        omega
      · show 0 + numA (kA b) 0 + numA (kA b) 1 ≤ _
        omega
      · show 0 + numA (kA b) 0 + numA (kA b) 1 + numA (kA b) 2 ≤ _
        omega
    obtain ⟨g2, i1, i2⟩ := ih (s + 1) g (.int (nI (numA (kA b) s))) (.int (nI (suA (kA b) s))) (.int w7) (.int (nI (numA (kA b) s))) w9 (by omega) r2.1
    refine ⟨g2, ?_, ((((Ls.th K).tr (Ls.th K.th)).tr r2).tr i2).up (by omega)⟩
    rw [e240_168, if_neg (show ¬((99 : Int32) < nI (97 + s)) by rw [show ((99 : Int32) < nI (97 + s)) = (99 < 97 + s) from lt_nI (by decide) (by omega)]; omega), K.k8, recordsOf_ok K.q K.rk hs3]
    simp only [bI_ok, cond_true]
    rw [if_neg (show ¬((1 : Int32) = 0) by decide), q1]
    simp only [bI_ok, ↓reduceIte, q2]
    rw [e240_238, add_nI, show cnN (kA b) s + numA (kA b) s = cnN (kA b) (s + 1) from rfl]
    refine Eq.trans ?_ (r1.trans ?_)
    · rfl
    · rw [add_nI, show csN (kA b) s + suA (kA b) s = csN (kA b) (s + 1) from rfl]
      exact i1
/-- areRecordsRight -/
theorem records_ok {c : Nat} (H : ∀ h, LK N xs h b y → ∃ g, CL 204 [.ref 31] h = some (.ok (.int (1 : Int32)), g) ∧ Ls N xs b y h g c) (K : LK N xs h b y) : ∃ g, CL 240 [.ref 31] h = some (.ok (.int (1 : Int32)), g) ∧ Ls N xs b y h g (860 + c) := by
  have n12 := K.qv.1
  have K1 := K.th
  have K2 := K1.th
  have K3 := K2.th
  have K4 := K3.th
  have K5 := K4.th
  have K6 := K5.th
  have K7 := K6.th
  have K8 := K7.th
  have K9 := K8.th
  have a1 := (askb K (100 : Int32) (0 : Int32) (97 : Int32)).1 (Or.inl (by decide))
  have a2 := (askb K1 (97 : Int32) (1000 : Int32) (97 : Int32)).1 (Or.inr (by decide))
  have a3 := (askb K2 (100 : Int32) (0 : Int32) (97 : Int32)).2.1 (by decide)
  have a4 := (askb K3 (100 : Int32) (0 : Int32) (97 : Int32)).2.2.1 (by decide)
  have a5 := (askb K4 (97 : Int32) (-1 : Int32) (97 : Int32)).2.2.2.1 (by decide)
  have a6 := (askb K5 (97 : Int32) (1000 : Int32) (97 : Int32)).2.2.2.2.1 (by decide)
  have a7 := (askb K6 (97 : Int32) (0 : Int32) (97 : Int32)).2.2.2.2.2.1 (by decide)
  have a8 := (askb K7 (97 : Int32) (0 : Int32) (100 : Int32)).2.2.2.2.2.2 (by decide) (by decide)
  have a9 := ask_oc K8 (i := kN b) (Nat.le_refl _) (by omega) (97 : Int32) (97 : Int32)
  obtain ⟨g, r1, r2⟩ := rec_all H 3 0 _ .null .null .null .null .null rfl K9
  refine ⟨g, ?_, ((((((((((Ls.th K).tr (Ls.th K1)).tr (Ls.th K2)).tr (Ls.th K3)).tr (Ls.th K4)).tr (Ls.th K5)).tr (Ls.th K6)).tr (Ls.th K7)).tr (Ls.th K8)).tr r2).up (by have := K.t30; omega)⟩
  rw [e240, a1]
  simp only [bI_ok, ↓reduceIte, a2, a3, a4, a5, a6, a7, a8, K8.k8, cond_true, reportCount_ok K8.q K8.rk, a9]
  rw [e240_163]
  exact r1
end LAW13
