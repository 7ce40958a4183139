/-! THE LAW: the p-th of those that are; any one thing done -/
theorem nth_ex {p : Nat → Bool} {r : Nat} : ∀ {n : Nat}, r < sumN (fun k => b2n (p k)) n → ∃ k, k < n ∧ p k = true ∧ sumN (fun k => b2n (p k)) k = r
  | 0, h => absurd h (Nat.not_lt_zero r)
  | n + 1, h => by
    have h : r < sumN (fun k => b2n (p k)) n + b2n (p n) := h
    by_cases q : r < sumN (fun k => b2n (p k)) n
    · obtain ⟨k, k1, k2, k3⟩ := nth_ex q
      exact ⟨k, by omega, k2, k3⟩
    · have hp : p n = true := by
        cases z : p n with
        | true => rfl
        | false =>
          rw [z] at h
          have : b2n false = 0 := rfl
          omega
      have h1 : b2n (p n) = 1 := by rw [hp]; rfl
      exact ⟨n, Nat.lt_succ_self n, hp, by omega⟩
theorem nth_lt {p : Nat → Bool} {k n : Nat} (hk : k < n) (hp : p k = true) : sumN (fun k => b2n (p k)) k < sumN (fun k => b2n (p k)) n := by
  have h1 : sumN (fun k => b2n (p k)) (k + 1) ≤ sumN (fun k => b2n (p k)) n := sumN_mono hk
  have h2 : sumN (fun k => b2n (p k)) (k + 1) = sumN (fun k => b2n (p k)) k + b2n (p k) := rfl
  have h3 : b2n (p k) = 1 := by rw [hp]; rfl
  omega
theorem nth_fst {p : Nat → Bool} {r : Nat} (hr : r < sumN (fun k => b2n (p k)) 1000) : ∃ k, k < 1000 ∧ p k = true ∧ sumN (fun k => b2n (p k)) k = r ∧ fst? (fun k => p k && decide (nI (sumN (fun k => b2n (p k)) k) = nI r)) 1000 = some k := by
  obtain ⟨k, k1, k2, k3⟩ := nth_ex hr
  have hb : ∀ m, m ≤ 1000 → sumN (fun k => b2n (p k)) m ≤ 1000 := fun m hm => by
    have := sumN_bd (f := fun k => b2n (p k)) (n := m) (b := 1) (fun i _ => b2n_le _)
    omega
  refine ⟨k, k1, k2, k3, fst_some.mpr ⟨k1, ?_, fun j hj => ?_⟩⟩
  · rw [k2, k3]
    simp
  · cases z : p j with
    | false => rfl
    | true =>
      have h1 := nth_lt hj z
      rw [Bool.true_and, decide_eq_false_iff_not]
      intro q
      have := hb j (by omega)
      have := hb k (by omega)
      have := hb 1000 (by omega)
      have q2 := congrArg Int32.toInt q
      rw [nI_toInt (by omega), nI_toInt (by omega)] at q2
      omega
theorem ka_at {A : AF} {s r : Nat} (hr : r < numA A s) : ∃ k, k < 1000 ∧ 0 < A s k ∧ sumN (fun k => b2n (decide (0 < A s k))) k = r ∧ kaA A s (nI r) = some k := by
  obtain ⟨k, k1, k2, k3, k4⟩ := nth_fst (p := fun k => decide (0 < A s k)) hr
  refine ⟨k, k1, of_decide_eq_true k2, k3, ?_⟩
  unfold kaA
  exact (congrArg (fun q => fst? q 1000) (funext (fun j => Bool.decide_and _ _))).trans k4
theorem dk_at {A : AF} {r : Nat} (hr : r < cwA A 100) : ∃ k, k < 1000 ∧ stA A k = 100 ∧ sumN (fun k => b2n (decide (stA A k = 100))) k = r ∧ dkA A (nI r) = some k := by
  have e : cwA A 100 = sumN (fun k => b2n (decide (stA A k = 100))) 1000 := by
    unfold cwA
    refine sumN_eq (fun k _ => ?_)
    congr 1
    by_cases q : stA A k = 100
    · have hp : 0 < hoA A k := by
        have q2 := q
        unfold stA st3 at q2
        unfold hoA
        split at q2
        · rename_i z
          unfold d3 at z
          revert z
          unfold hol3 b2n
          repeat' split
          all_goals simp_all
          all_goals omega
        · split at q2 <;> cases q2
      rw [decide_eq_true q, decide_eq_true ⟨hp, q⟩]
    · rw [decide_eq_false q, decide_eq_false (fun z => q z.2)]
  rw [e] at hr
  obtain ⟨k, k1, k2, k3, k4⟩ := nth_fst (p := fun k => decide (stA A k = 100)) hr
  refine ⟨k, k1, of_decide_eq_true k2, k3, ?_⟩
  unfold dkA
  exact (congrArg (fun q => fst? q 1000) (funext (fun j => Bool.decide_and _ _))).trans k4
theorem ka_no {A : AF} {s : Nat} {p : Int32} (hp : inN (numA A s) p = false) : kaA A s p = none := by
  unfold kaA
  rw [fst_none]
  intro j hj
  rw [decide_eq_false_iff_not]
  rintro ⟨h1, h2⟩
  have h3 := nth_lt (p := fun k => decide (0 < A s k)) hj (decide_eq_true h1)
  have h4 : numA A s ≤ 1000 := by
    have := sumN_bd (f := fun k => b2n (decide (0 < A s k))) (n := 1000) (b := 1) (fun i _ => b2n_le _)
    unfold numA
    omega
  have h3 : sumN (fun k => b2n (decide (0 < A s k))) j < numA A s := h3
  rw [← h2] at hp
  unfold inN at hp
  have h5 : nI (sumN (fun k => b2n (decide (0 < A s k))) j) < nI (numA A s) := by
    rw [lt_nI (by omega) (by omega)]
    exact h3
  rw [decide_eq_true (nI_pos' (by omega)), decide_eq_true h5] at hp
  cases hp
theorem dk_no {A : AF} {p : Int32} (hp : ∀ r, p = nI r → ¬ r < cwA A 100) (h0 : ∃ r, p = nI r) : dkA A p = none := by
  obtain ⟨r, rfl⟩ := h0
  unfold dkA
  rw [fst_none]
  intro j hj
  rw [decide_eq_false_iff_not]
  rintro ⟨h1, h2⟩
  have h3 := nth_lt (p := fun k => decide (stA A k = 100)) hj (decide_eq_true h1)
  obtain ⟨k, -, -, -, -⟩ := dk_at (A := A) (r := sumN (fun k => b2n (decide (stA A k = 100))) j) (by
    unfold cwA
    refine Nat.lt_of_lt_of_le h3 (sumN_le (fun i _ => ?_))
    unfold b2n
    split
    · rename_i z
      have z := of_decide_eq_true z
      have hp : 0 < hoA A i := by
        have q2 := z
        unfold stA st3 at q2
        unfold hoA
        split at q2
        · rename_i z
          unfold d3 at z
          revert z
          unfold hol3 b2n
          repeat' split
          all_goals simp_all
          all_goals omega
        · split at q2 <;> cases q2
      rw [if_pos (decide_eq_true ⟨hp, z⟩)]
      exact Nat.le_refl _
    · exact Nat.zero_le _)
  exact hp _ h2.symm (by
    unfold cwA
    refine Nat.lt_of_lt_of_le h3 (sumN_le (fun i _ => ?_))
    unfold b2n
    split
    · rename_i z
      have z := of_decide_eq_true z
      have hp : 0 < hoA A i := by
        have q2 := z
        unfold stA st3 at q2
        unfold hoA
        split at q2
        · rename_i z
          unfold d3 at z
          revert z
          unfold hol3 b2n
          repeat' split
          all_goals simp_all
          all_goals omega
        · split at q2 <;> cases q2
      rw [if_pos (decide_eq_true ⟨hp, z⟩)]
      exact Nat.le_refl _
    · exact Nat.zero_le _)
section LAW6
variable {N : Nat} {xs : Nat → Int32} {h g : Hp} {b : Bk} {y : Nat}
theorem any_sw (l0 l1 : Nat) (l2 l3 l4 l5 : Int32) (h : Hp) {r : Nat} (hr : r < 20) : ∃ pc, (pc = 148 ∨ pc = 168 ∨ pc = 202 ∨ pc = 212 ∨ pc = 222 ∨ pc = 261 ∨ pc = 275) ∧ RF 193 59 [.ref l0, .ref l1, .int l2, .int l3, .int l4, .int l5] [.int (nI r)] h = RF 193 pc [.ref l0, .ref l1, .int l2, .int l3, .int l4, .int l5] [] h := by
  rcases (show r = 0 ∨ r = 1 ∨ r = 2 ∨ r = 3 ∨ r = 4 ∨ r = 5 ∨ r = 6 ∨ r = 7 ∨ r = 8 ∨ r = 9 ∨ r = 10 ∨ r = 11 ∨ r = 12 ∨ r = 13 ∨ r = 14 ∨ r = 15 ∨ r = 16 ∨ r = 17 ∨ r = 18 ∨ r = 19 by omega) with rfl | rfl | rfl | rfl | rfl | rfl | rfl | rfl | rfl | rfl | rfl | rfl | rfl | rfl | rfl | rfl | rfl | rfl | rfl | rfl
  case _ => exact ⟨148, by omega, by rw [e193_59, if_neg (by decide), if_neg (by decide)]; rfl⟩
  case _ => exact ⟨148, by omega, by rw [e193_59, if_neg (by decide), if_neg (by decide)]; rfl⟩
  case _ => exact ⟨148, by omega, by rw [e193_59, if_neg (by decide), if_neg (by decide)]; rfl⟩
  case _ => exact ⟨148, by omega, by rw [e193_59, if_neg (by decide), if_neg (by decide)]; rfl⟩
  case _ => exact ⟨148, by omega, by rw [e193_59, if_neg (by decide), if_neg (by decide)]; rfl⟩
  case _ => exact ⟨148, by omega, by rw [e193_59, if_neg (by decide), if_neg (by decide)]; rfl⟩
  case _ => exact ⟨148, by omega, by rw [e193_59, if_neg (by decide), if_neg (by decide)]; rfl⟩
  case _ => exact ⟨148, by omega, by rw [e193_59, if_neg (by decide), if_neg (by decide)]; rfl⟩
  case _ => exact ⟨168, by omega, by rw [e193_59, if_neg (by decide), if_neg (by decide)]; rfl⟩
  case _ => exact ⟨168, by omega, by rw [e193_59, if_neg (by decide), if_neg (by decide)]; rfl⟩
  case _ => exact ⟨202, by omega, by rw [e193_59, if_neg (by decide), if_neg (by decide)]; rfl⟩
  case _ => exact ⟨202, by omega, by rw [e193_59, if_neg (by decide), if_neg (by decide)]; rfl⟩
  case _ => exact ⟨202, by omega, by rw [e193_59, if_neg (by decide), if_neg (by decide)]; rfl⟩
  case _ => exact ⟨212, by omega, by rw [e193_59, if_neg (by decide), if_neg (by decide)]; rfl⟩
  case _ => exact ⟨222, by omega, by rw [e193_59, if_neg (by decide), if_neg (by decide)]; rfl⟩
  case _ => exact ⟨222, by omega, by rw [e193_59, if_neg (by decide), if_neg (by decide)]; rfl⟩
  case _ => exact ⟨222, by omega, by rw [e193_59, if_neg (by decide), if_neg (by decide)]; rfl⟩
  case _ => exact ⟨261, by omega, by rw [e193_59, if_neg (by decide), if_neg (by decide)]; rfl⟩
  case _ => exact ⟨261, by omega, by rw [e193_59, if_neg (by decide), if_neg (by decide)]; rfl⟩
  case _ => exact ⟨275, by omega, by rw [e193_59, if_neg (by decide), if_pos (by decide)]⟩
/-- a change as the last thing: its number is the answer -/
theorem De.fin {r : Res} (D : De N xs h y r) : ∃ v g b', bI r (fun x2 h1 => some (.ok (.int x2), h1)) thr = some (.ok (.int v), g) ∧ LK N xs g b' (y + 99) ∧ Rm h g 1 6 := by
  obtain ⟨v, g, b', d1, d2, d3, -⟩ := D
  exact ⟨v, g, b', by rw [d1]; rfl, d2, d3⟩
theorem cw_le (A : AF) (c : Nat) : cwA A c ≤ 1000 := by
  have := sumN_bd (f := fun k => b2n (decide (0 < hoA A k ∧ stA A k = c))) (n := 1000) (b := 1) (fun i _ => b2n_le _)
  unfold cwA
  omega
theorem any1 (K : LK N xs h b y) (hN : N ≤ 260) (hy : y < 1000000000) {i pc : Nat} (hi : i < 1000) (hpc : pc = 148 ∨ pc = 168 ∨ pc = 202 ∨ pc = 212 ∨ pc = 222 ∨ pc = 261 ∨ pc = 275) (l3 l4 l5 : Int32) (hk0 : ∃ k0, l4 = nI k0 ∧ k0 < 100) : ∃ v g b', RF 193 pc [.ref 31, .ref 30, .int (nI i), .int l3, .int l4, .int l5] [] h = some (.ok (.int v), g) ∧ LK N xs g b' (y + 99) ∧ Rm h g 1 6 := by
  rcases hpc with rfl | rfl | rfl | rfl | rfl | rfl | rfl
  · obtain ⟨r, -, r2⟩ := pick_ok K.sc hN (i := i + 3) (m := 14) (by omega) (by decide) (by decide)
    rw [e193_148, show (nI i + (3 : Int32)) = nI (i + 3) from add_nI i 3, show CL 186 [.ref 30, .int (nI (i + 3)), .int (14 : Int32)] h = _ from r2]
    exact (deed0 K hy l3 l4 _ hk0).fin
  · rw [e193_168, K.k8, reportCount_ok K.q K.rk]
    simp only [cond_true, bI_ok]
    have n12 := K.qv.1
    by_cases q : kN b = 0
    · rw [if_pos (show nI (kN b) = (0 : Int32) by rw [eqz_nI (by omega)]; exact q)]
      exact ⟨_, h, b, rfl, K.up (by omega), (Rm.rf h).up (by omega) (by omega)⟩
    · rw [if_neg (show ¬(nI (kN b) = (0 : Int32)) by rw [eqz_nI (by omega)]; exact q)]
      simp only [K.k8, cond_true]
      obtain ⟨c1, c2, c3, -⟩ := repC_t K.q K.rk (j := 0) (by omega)
      rw [show CL 159 [.ref 31, .int (0 : Int32)] h = _ from c1]
      simp only [bI_ok]
      rw [show CL 158 [.ref 31, .int (0 : Int32)] h = _ from c2]
      simp only [bI_ok]
      rw [show CL 156 [.ref 31, .int (0 : Int32)] h = _ from c3]
      simp only [bI_ok]
      simp only [K.k8, cond_true]
      exact (deed1 K hy _ _ _).fin
  · rw [e193_202]
    exact (deed2 K hy _ _ _).fin
  · rw [e193_212]
    exact (deed3 K hy _ _ _).fin
  · rw [e193_222, K.k8, disputedCount_ok K.q K.rk]
    simp only [cond_true, bI_ok]
    have hc := cw_le (kA b) 100
    by_cases q : cwA (kA b) 100 = 0
    · rw [if_pos (show nI (cwA (kA b) 100) = (0 : Int32) by rw [eqz_nI (by omega)]; exact q), e193_256]
      exact (deed4 K hy _ _ _).fin
    · rw [if_neg (show ¬(nI (cwA (kA b) 100) = (0 : Int32)) by rw [eqz_nI (by omega)]; exact q)]
      simp only [K.k8, cond_true, disputedCount_ok K.q K.rk, bI_ok]
      obtain ⟨r, r1, r2⟩ := pick_ok K.sc hN (i := i + 2) (m := cwA (kA b) 100) (by omega) (by omega) (by omega)
      obtain ⟨k, k1, k2, k3, k4⟩ := dk_at (A := kA b) r1
      have hd := disputedAt_ok K.q K.rk (nI r)
      rw [k4] at hd
      rw [show (nI i + (2 : Int32)) = nI (i + 2) from add_nI i 2, r2]
      simp only [bI_ok]
      simp only [K.k8, cond_true]
      rw [hd]
      simp only [bI_ok]
      rw [e193_256]
      exact (deed4 K hy _ _ _).fin
  · rw [e193_261]
    exact (deed5 K hy _ _ _).fin
  · obtain ⟨r, -, r2⟩ := pick_ok K.sc hN (i := i + 2) (m := 99) (by omega) (by decide) (by decide)
    rw [e193_275, show (nI i + (2 : Int32)) = nI (i + 2) from add_nI i 2, show CL 186 [.ref 30, .int (nI (i + 2)), .int (99 : Int32)] h = _ from r2]
    exact (deed6 K hy _ _ _).fin
theorem any_ok (K : LK N xs h b y) (hN : N ≤ 260) (hy : y < 1000000000) {i : Nat} (hi : i < 1000) : ∃ v g b', CL 193 [.ref 31, .ref 30, .int (nI i)] h = some (.ok (.int v), g) ∧ LK N xs g b' (y + 99) ∧ Rm h g 2 12 := by
  obtain ⟨s, s1, s2⟩ := source_ok K.sc hN (i := i + 1) (by omega)
  obtain ⟨r1, -, r2⟩ := pick_ok K.sc hN (i := 1) (m := 2) (by decide) (by decide) (by decide)
  have key : ∀ (q : Int32), (q = (12 : Int32) ∨ q = (70 : Int32)) → ∃ v g b', RF 193 28 [.ref 31, .ref 30, .int (nI i), .int (nI (97 + s)), .null, .null] [.int q, .int (nI (i + 2)), .ref 30] h = some (.ok (.int v), g) ∧ LK N xs g b' (y + 99) ∧ Rm h g 2 12 := by
    intro q hq
    have hp : ∃ kk, CL 186 [.ref 30, .int (nI (i + 2)), .int q] h = some (.ok (.int kk), h) ∧ ∃ k0, kk = nI k0 ∧ k0 < 100 := by
      rcases hq with rfl | rfl
      · obtain ⟨p1, pl, p2⟩ := pick_ok K.sc hN (i := i + 2) (m := 12) (by omega) (by decide) (by decide)
        exact ⟨_, p2, p1, rfl, by omega⟩
      · obtain ⟨p1, pl, p2⟩ := pick_ok K.sc hN (i := i + 2) (m := 70) (by omega) (by decide) (by decide)
        exact ⟨_, p2, p1, rfl, by omega⟩
    obtain ⟨kk, hkk, hk0⟩ := hp
    obtain ⟨p3, p4, p5⟩ := pick_ok K.sc hN (i := i + 2) (m := 10) (by omega) (by decide) (by decide)
    have hask : ∃ w g1, CL 190 [.ref 31, .int (1 : Int32), .int (nI (97 + s)), .int (nI p3), .int (97 : Int32)] h = some (.ok (.int w), g1) ∧ LK N xs g1 b y ∧ Rm h g1 1 6 := by
      have hk := keyAt_ok K.q K.rk s1 (nI p3)
      cases hq : kaA (kA b) s (nI p3) with
      | some k =>
        rw [hq] at hk
        exact ⟨_, h, ask1_o K.k8 _ _ _ hk, K, (Rm.rf h).up (by omega) (by omega)⟩
      | none =>
        rw [hq] at hk
        exact ⟨_, hthr h, ask1_3 K.k8 _ _ _ hk, K.th, Rm.thr h⟩
    obtain ⟨w, g1, a1, a2, a3⟩ := hask
    obtain ⟨p6, p7, p8⟩ := pick_ok a2.sc hN (i := i) (m := 20) (by omega) (by decide) (by decide)
    obtain ⟨pc, c1, c2⟩ := any_sw 31 30 (nI i) (nI (97 + s)) kk w g1 p7
    obtain ⟨v, g, b', d1, d2, d3⟩ := any1 a2 hN hy hi c1 (nI (97 + s)) kk w hk0
    refine ⟨v, g, b', ?_, d2, (a3.tr d3).up (by omega) (by omega)⟩
    rw [e193_28, hkk]
    simp only [bI_ok]
    rw [show (nI i + (2 : Int32)) = nI (i + 2) from add_nI i 2, show CL 186 [.ref 30, .int (nI (i + 2)), .int (10 : Int32)] h = _ from p5]
    simp only [bI_ok]
    rw [a1]
    simp only [bI_ok]
    rw [show CL 186 [.ref 30, .int (nI i), .int (20 : Int32)] g1 = _ from p8]
    simp only [bI_ok]
    rw [c2, d1]
  rw [e193, show (nI i + (1 : Int32)) = nI (i + 1) from add_nI i 1, s2]
  simp only [bI_ok]
  rw [show CL 186 [.ref 30, .int (1 : Int32), .int (2 : Int32)] h = _ from r2]
  simp only [bI_ok]
  rw [show (nI i + (2 : Int32)) = nI (i + 2) from add_nI i 2]
  split
  · exact key _ (Or.inl rfl)
  · exact key _ (Or.inr rfl)
end LAW6
