/-! THE LAW: the records, one by one -/
theorem lwL : (lws 12 0 (lln 12) = [] ∧ lws 14 0 (lln 14) = [61] ∧ lws 16 0 (lln 16) = [32, 64] ∧ lws 18 0 (lln 18) = [58] ∧ lws 20 0 (lln 20) = [32]) ∧ (lws 22 0 (lln 22) = lws 6 0 11 ∧ lws 24 0 (lln 24) = lws 4 0 10 ∧ lws 26 0 (lln 26) = lws 8 0 5) ∧ ∀ i, i < 13 → lln (4 + 2 * i) ≤ 142 := by decide +kernel
def rkn (A : AF) (s m : Nat) : Nat := sumN (fun k => b2n (decide (0 < A s k))) m
theorem rkn_s {A : AF} {s m : Nat} (h : 0 < A s m) : rkn A s (m + 1) = rkn A s m + 1 := by
  show rkn A s m + b2n (decide (0 < A s m)) = _
  rw [decide_eq_true h]
  rfl
theorem rkn_m {A : AF} {s m n : Nat} (h : m ≤ n) : rkn A s m ≤ rkn A s n := sumN_mono h
theorem rkn_z {A : AF} {s m n : Nat} (h : rkn A s m = rkn A s n) {j : Nat} (h1 : m ≤ j) (h2 : j < n) : A s j = 0 := by
  by_cases q : 0 < A s j
  · have a1 := rkn_s q
    have a2 := rkn_m (A := A) (s := s) h1
    have a3 := rkn_m (A := A) (s := s) (show j + 1 ≤ n by omega)
    omega
  · omega
theorem nx_key {A : AF} {s p m : Nat} (hm : rkn A s m = p) (hp : p < numA A s) : ∃ k, k < 1000 ∧ 0 < A s k ∧ rkn A s k = p ∧ kaA A s (nI p) = some k ∧ m ≤ k ∧ ∀ j, m ≤ j → j < k → A s j = 0 := by
  obtain ⟨k, k1, k2, k3, k4⟩ := ka_at hp
  have k3 : rkn A s k = p := k3
  refine ⟨k, k1, k2, k3, k4, ?_, fun j h1 h2 => rkn_z (hm.trans k3.symm) h1 h2⟩
  by_cases q : m ≤ k
  · exact q
  · have a1 := rkn_s k2
    have a2 := rkn_m (A := A) (s := s) (show k + 1 ≤ m by omega)
    omega
theorem ol_some {A D : AF} {s : Nat} : ∀ {m k : Nat}, olA A D s m = some k → k < m ∧ 0 < A s k
  | 0, _, h => by cases h
  | m + 1, k, h => by
    simp only [olA] at h
    cases q : olA A D s m with
    | none =>
      rw [q] at h
      simp only at h
      split at h
      · rename_i z
        cases h
        exact ⟨Nat.lt_succ_self _, z⟩
      · cases h
    | some k0 =>
      rw [q] at h
      simp only at h
      obtain ⟨a1, a2⟩ := ol_some q
      split at h
      · rename_i z
        cases h
        exact ⟨Nat.lt_succ_self _, z.1⟩
      · cases h
        exact ⟨Nat.lt_succ_of_lt a1, a2⟩
theorem tot_num (A : AF) : tot A = numA A 0 + numA A 1 + numA A 2 := by
  unfold numA
  rw [← sumN_add, ← sumN_add]
  rfl
section LAW12
variable {N : Nat} {xs : Nat → Int32} {h g : Hp} {b : Bk} {y : Nat}
theorem LK.am9 (K : LK N xs h b y) {s k : Nat} (hs : s < 3) (hk : k < 1000) (h0 : 0 < kA b s k) : kA b s k < 100 ∧ kD b s k < 1073741824 := by
  obtain ⟨r, r1, r2, r3, -⟩ := rqRec_t K.q K.rk hs hk h0
  have n30 := K.rk.t.n30
  refine ⟨?_, ?_⟩
  · rw [← r3]
    exact K.rk.t.N.a9 hs (by omega)
  · have hd9 := K.rk.t.N.d9 hs (show r < 30 by omega)
    rw [← K.rk.t.d hs r1 (by omega), r2] at hd9
    exact hd9
theorem rec_line (K : LK N xs h b y) {s k : Nat} (hs : s < 3) (hk : k < 1000) (h0 : 0 < kA b s k) (l1 l2 l3 l5 l6 l7 l8 : Int32) : ∃ g, RF 240 340 [.ref 31, .int l1, .int l2, .int l3, .int (nI (97 + s)), .int l5, .int l6, .int l7, .int l8, .int (nI k)] [] h = RF 240 242 [.ref 31, .int l1, .int l2, .int (1 : Int32), .int (nI (97 + s)), .int l5, .int l6, .int l7, .int (l8 + (1 : Int32)), .int (nI k)] [] g ∧ Ls N xs b y h g 28 := by
  obtain ⟨⟨w12, w14, w16, -, -⟩, -, wl⟩ := lwL
  obtain ⟨ha9, hd9⟩ := K.am9 hs hk h0
  have d1 := dig_len3 hk
  have d2 := dig_len2 ha9
  have d3 := dig_len hd9
  obtain ⟨g1, c1, K1, ⟨c, A, S⟩, I1, -, R1⟩ := fm_rec K K.wf (Z := fun _ => False) (fun z => z) hs hk h0
  have T12 := lit_st K1 (a := 12) (by decide) (by decide) (by decide) (wl 4 (by decide))
  have T14 := lit_st K1 (a := 14) (by decide) (by decide) (by decide) (wl 5 (by decide))
  have T16 := lit_st K1 (a := 16) (by decide) (by decide) (by decide) (wl 6 (by decide))
  rw [w12] at T12
  rw [w14] at T14
  rw [w16] at T16
  obtain ⟨g2, k2, c2, Q2⟩ := bq_new I1
  obtain ⟨g3, c3, Q3⟩ := Q2.st T12 (fun z => z) (by decide)
  obtain ⟨g4, c4, Q4⟩ := Q3.c (ch := 97 + s) (by omega) (by decide)
  obtain ⟨g5, c5, Q5⟩ := Q4.i K1 (v := k) (by omega) (by simp only [List.length_append, List.length_cons, List.length_nil]; omega)
  obtain ⟨g6, c6, Q6⟩ := Q5.st T14 (fun z => z) (by simp only [List.length_append, List.length_cons, List.length_nil]; omega)
  obtain ⟨g7, c7, Q7⟩ := Q6.i K1 (v := kA b s k) (by omega) (by simp only [List.length_append, List.length_cons, List.length_nil]; omega)
  obtain ⟨g8, c8, Q8⟩ := Q7.st T16 (fun z => z) (by simp only [List.length_append, List.length_cons, List.length_nil]; omega)
  obtain ⟨g9, c9, Q9⟩ := Q8.i K1 (v := kD b s k) hd9 (by simp only [List.length_append, List.length_cons, List.length_nil]; omega)
  have eM : (((((([] ++ []) ++ [97 + s]) ++ dig k) ++ [61]) ++ dig (kA b s k)) ++ [32, 64]) ++ dig (kD b s k) = recL b s k := by
    unfold recL
    simp only [List.nil_append, List.append_assoc, List.cons_append]
  rw [eM] at Q9
  have lo := recL_lo b hs k
  have hM : (recL b s k).length ≤ 142 := by
    rw [← eM]
    simp only [List.length_append, List.length_cons, List.length_nil]
    omega
  obtain ⟨g10, c10, T10, v10, n10, -, -⟩ := Q9.str lo hM
  have K6 := K1.nh Q6.2.1
  have K8 := K1.nh Q8.2.1
  have K10 := K1.nh n10
  have hi := line_ok K10 (S.nh n10.1) lo T10 v10
  refine ⟨g10, ?_, Ls.tr (n := 3) ⟨K1, R1⟩ (Ls.nq K1 n10)⟩
  rw [e240_340, K.k8, c1]
  simp only [bI_ok, cond_true, k2, c2, bV_ok, Q2.ck, c3, bR_ok, Q3.ck, c4, Q4.ck, c5, Q5.ck, c6, Q6.ck, K6.k8, amountOf_ok K6.q K6.rk hs hk h0, c7, Q7.ck, c8, Q8.ck, K8.k8, dayOf_ok K8.q K8.rk hs hk h0, c9, Q9.ck, c10, hi]
  rw [if_neg (show ¬((1 : Int32) = 0) by decide)]
end LAW12
