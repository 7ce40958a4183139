/-! THE LAW: its groups, the pure part -/
/-! the records in their order -/
def kyA (A : AF) (s p : Nat) : Nat := (kaA A s (nI p)).getD 0
def srI (A : AF) (i : Nat) : Nat := if i < numA A 0 then 0 else if i < numA A 0 + numA A 1 then 1 else 2
def kyI (A : AF) (i : Nat) : Nat := if i < numA A 0 then kyA A 0 i else if i < numA A 0 + numA A 1 then kyA A 1 (i - numA A 0) else kyA A 2 (i - (numA A 0 + numA A 1))
theorem kyA_ok {A : AF} {s p : Nat} (hp : p < numA A s) : kyA A s p < 1000 ∧ 0 < A s (kyA A s p) ∧ rkn A s (kyA A s p) = p ∧ kaA A s (nI p) = some (kyA A s p) := by
  obtain ⟨k, k1, k2, k3, k4⟩ := ka_at hp
  have e : kyA A s p = k := by
    unfold kyA
    rw [k4]
    rfl
  rw [e]
  exact ⟨k1, k2, k3, k4⟩
theorem kyA_mono {A : AF} {s p q : Nat} (h : p < q) (hq : q < numA A s) : kyA A s p < kyA A s q := by
  obtain ⟨-, -, a3, -⟩ := kyA_ok (show p < numA A s by omega)
  obtain ⟨-, -, b3, -⟩ := kyA_ok hq
  by_cases z : kyA A s p < kyA A s q
  · exact z
  · have := rkn_m (A := A) (s := s) (show kyA A s q ≤ kyA A s p by omega)
    omega
theorem kyA_on {A : AF} {s k : Nat} (hk : k < 1000) (h : 0 < A s k) : rkn A s k < numA A s ∧ kyA A s (rkn A s k) = k := by
  have a1 := rkn_s h
  have a2 := rkn_m (A := A) (s := s) (show k + 1 ≤ 1000 by omega)
  have a3 : rkn A s 1000 = numA A s := rfl
  have hp : rkn A s k < numA A s := by omega
  obtain ⟨b1, b2, b3, -⟩ := kyA_ok hp
  refine ⟨hp, ?_⟩
  rcases Nat.lt_trichotomy (kyA A s (rkn A s k)) k with w | w | w
  · have c1 := rkn_s b2
    have c2 := rkn_m (A := A) (s := s) (show kyA A s (rkn A s k) + 1 ≤ k by omega)
    omega
  · exact w
  · have c2 := rkn_m (A := A) (s := s) (show k + 1 ≤ kyA A s (rkn A s k) by omega)
    omega
theorem cn_s (A : AF) : cnN A 0 = 0 ∧ cnN A 1 = numA A 0 ∧ cnN A 2 = numA A 0 + numA A 1 ∧ cnN A 3 = tot A := by
  refine ⟨rfl, ?_, ?_, ?_⟩
  · show 0 + numA A 0 = _
    omega
  · show 0 + numA A 0 + numA A 1 = _
    omega
  · rw [tot_num]
    show 0 + numA A 0 + numA A 1 + numA A 2 = _
    omega
theorem ix_at {A : AF} {s p : Nat} (hs : s < 3) (hp : p < numA A s) : srI A (cnN A s + p) = s ∧ kyI A (cnN A s + p) = kyA A s p ∧ cnN A s + p < tot A := by
  obtain ⟨c0, c1, c2, -⟩ := cn_s A
  have ht := tot_num A
  unfold srI kyI
  rcases (show s = 0 ∨ s = 1 ∨ s = 2 by omega) with rfl | rfl | rfl
  · rw [c0, Nat.zero_add]
    exact ⟨if_pos hp, if_pos hp, by omega⟩
  · rw [c1]
    have q1 : ¬(numA A 0 + p < numA A 0) := by omega
    have q2 : numA A 0 + p < numA A 0 + numA A 1 := by omega
    refine ⟨by rw [if_neg q1, if_pos q2], by rw [if_neg q1, if_pos q2, Nat.add_sub_cancel_left], by omega⟩
  · rw [c2]
    have q1 : ¬(numA A 0 + numA A 1 + p < numA A 0) := by omega
    have q2 : ¬(numA A 0 + numA A 1 + p < numA A 0 + numA A 1) := by omega
    refine ⟨by rw [if_neg q1, if_neg q2], by rw [if_neg q1, if_neg q2, Nat.add_sub_cancel_left], by omega⟩
theorem ix_of {A : AF} {i : Nat} (hi : i < tot A) : ∃ s p, s < 3 ∧ p < numA A s ∧ i = cnN A s + p := by
  obtain ⟨c0, c1, c2, -⟩ := cn_s A
  have ht := tot_num A
  by_cases q : i < numA A 0
  · exact ⟨0, i, by decide, q, by rw [c0]; omega⟩
  · by_cases q2 : i < numA A 0 + numA A 1
    · exact ⟨1, i - numA A 0, by decide, by omega, by rw [c1]; omega⟩
    · exact ⟨2, i - (numA A 0 + numA A 1), by decide, by omega, by rw [c2]; omega⟩
theorem ix_ok {A : AF} {i : Nat} (hi : i < tot A) : srI A i < 3 ∧ kyI A i < 1000 ∧ 0 < A (srI A i) (kyI A i) := by
  obtain ⟨s, p, hs, hp, rfl⟩ := ix_of hi
  obtain ⟨e1, e2, -⟩ := ix_at hs hp
  obtain ⟨k1, k2, -⟩ := kyA_ok hp
  rw [e1, e2]
  exact ⟨hs, k1, k2⟩
theorem ix_on {A : AF} {s k : Nat} (hs : s < 3) (hk : k < 1000) (h : 0 < A s k) : ∃ i, i < tot A ∧ srI A i = s ∧ kyI A i = k := by
  obtain ⟨r1, r2⟩ := kyA_on hk h
  obtain ⟨e1, e2, e3⟩ := ix_at hs r1
  exact ⟨_, e3, e1, e2.trans r2⟩
/-- counting records by their keys -/
theorem ix_sum (A : AF) (P : Nat → Bool) : sumN (fun i => b2n (P (kyI A i))) (tot A) = sumN (fun k => if P k = true then hoA A k else 0) 1000 := by
  have row : ∀ s, sumN (fun p => b2n (P (kyA A s p))) (numA A s) = sumN (fun k => b2n (decide (0 < A s k) && P k)) 1000 := fun s => by
    have e := sum_rows (key := kyA A s) (n := numA A s) (N := 1000) (fun r r' h1 h2 => kyA_mono h1 h2) (fun r hr => (kyA_ok hr).1) (F := fun k => b2n (decide (0 < A s k) && P k)) (fun k hk h0 => by
      by_cases q : 0 < A s k
      · obtain ⟨r1, r2⟩ := kyA_on hk q
        exact absurd r2 (h0 _ r1)
      · rw [decide_eq_false q, Bool.false_and]
        rfl)
    rw [← e]
    refine sumN_eq (fun p hp => ?_)
    rw [decide_eq_true (kyA_ok hp).2.1, Bool.true_and]
  have e0 : sumN (fun i => b2n (P (kyI A i))) (numA A 0) = sumN (fun p => b2n (P (kyA A 0 p))) (numA A 0) := sumN_eq (fun p hp => by
    have e := (ix_at (A := A) (s := 0) (by decide) hp).2.1
    rw [(cn_s A).1, Nat.zero_add] at e
    rw [e])
  have e1 : sumN (fun i => b2n (P (kyI A (numA A 0 + i)))) (numA A 1) = sumN (fun p => b2n (P (kyA A 1 p))) (numA A 1) := sumN_eq (fun p hp => by
    have e := (ix_at (A := A) (s := 1) (by decide) hp).2.1
    rw [(cn_s A).2.1] at e
    rw [e])
  have e2 : sumN (fun i => b2n (P (kyI A (numA A 0 + numA A 1 + i)))) (numA A 2) = sumN (fun p => b2n (P (kyA A 2 p))) (numA A 2) := sumN_eq (fun p hp => by
    have e := (ix_at (A := A) (s := 2) (by decide) hp).2.1
    rw [(cn_s A).2.2.1] at e
    rw [e])
  rw [tot_num, sumN_cat, sumN_cat, e0, e1, e2, row, row, row, ← sumN_add, ← sumN_add]
  refine sumN_eq (fun k _ => ?_)
  show _ = if P k = true then b2n (decide (0 < A 0 k)) + b2n (decide (0 < A 1 k)) + b2n (decide (0 < A 2 k)) else 0
  cases P k with
  | true =>
    rw [if_pos rfl, Bool.and_true, Bool.and_true, Bool.and_true]
  | false =>
    rw [if_neg (by decide), Bool.and_false, Bool.and_false, Bool.and_false]
    rfl
/-! labels that go down -/
def LbI (E : EF) (n : Nat) (l : Nat → Nat) : Prop := ∀ i, i < n → l i < n ∧ Cn E i (l i)
def LbR (E : EF) (n : Nat) (l0 l : Nat → Nat) : Prop := LbI E n l ∧ (∀ i, i < n → l i ≤ l0 i) ∧ ∀ i j, i < n → j < n → E i j = true → l i ≤ l0 j
def LbQ (E : EF) (n r : Nat) (l : Nat → Nat) : Prop := LbI E n l ∧ ∀ m, m < n → (∀ j, j < n → Cn E m j → m ≤ j) → (∀ i, i < n → Cn E i m → l i = m) ∨ r + 1 ≤ sumN (fun i => b2n (decide (l i = m))) n
theorem LbQ_0 (E : EF) (n : Nat) : LbQ E n 0 (fun i => i) := by
  refine ⟨fun i hi => ⟨hi, Cn.rf i⟩, fun m hm _ => Or.inr ?_⟩
  have := sumN_pos (f := fun i => b2n (decide (i = m))) hm
  rw [decide_eq_true rfl] at this
  exact this
theorem LbQ_s {E : EF} {n r : Nat} {l0 l : Nat → Nat} (S : Sy E) (hE : ∀ i j, E i j = true → i < n ∧ j < n) (Q : LbQ E n r l0) (R : LbR E n l0 l) : LbQ E n (r + 1) l := by
  obtain ⟨R1, R2, R3⟩ := R
  refine ⟨R1, fun m hm hmin => ?_⟩
  have low : ∀ i, i < n → Cn E i m → m ≤ l i := fun i hi hc => hmin (l i) (R1 i hi).1 ((hc.sy S).tr (R1 i hi).2)
  have keep : ∀ i, i < n → l0 i = m → l i = m := fun i hi e => by
    have hc : Cn E i m := by
      have := (Q.1 i hi).2
      rwa [e] at this
    have := low i hi hc
    have := R2 i hi
    omega
  rcases Q.2 m hm hmin with h | h
  · exact Or.inl (fun i hi hc => keep i hi (h i hi hc))
  · by_cases hx : ∃ i j, E i j = true ∧ l0 j = m ∧ l0 i ≠ m
    · obtain ⟨i, j, e1, e2, e3⟩ := hx
      obtain ⟨hi, hj⟩ := hE i j e1
      right
      have hjm : Cn E j m := by
        have := (Q.1 j hj).2
        rwa [e2] at this
      have hil : l i = m := by
        have a1 := R3 i j hi hj e1
        have a2 := low i hi ((Cn.st e1).tr hjm)
        omega
      have b1 : sumN (fun i => b2n (decide (l0 i = m))) n + 1 ≤ sumN (fun i => b2n (decide (l i = m))) n := by
        have c := sumN_bump (f := fun k => b2n (decide (l0 k = m)) + (if k = i then 1 else 0)) (g := fun k => b2n (decide (l0 k = m))) hi (fun k _ hk => by
          show b2n (decide (l0 k = m)) + (if k = i then 1 else 0) = b2n (decide (l0 k = m))
          rw [if_neg hk, Nat.add_zero])
        have c2 : sumN (fun k => b2n (decide (l0 k = m)) + (if k = i then 1 else 0)) n ≤ sumN (fun i => b2n (decide (l i = m))) n := sumN_le (fun k hk => by
          by_cases q : k = i
          · subst q
            rw [decide_eq_false e3, decide_eq_true hil, if_pos rfl]
            exact Nat.le_refl _
          · rw [if_neg q, Nat.add_zero]
            by_cases q2 : l0 k = m
            · rw [decide_eq_true q2, decide_eq_true (keep k hk q2)]
              exact Nat.le_refl _
            · rw [decide_eq_false q2]
              exact Nat.zero_le _)
        rw [if_pos rfl] at c
        omega
      omega
    · left
      have all : ∀ i, i < n → Cn E i m → l0 i = m := fun i hi hc => by
        have h0m : l0 m = m := by
          by_cases q : l0 m = m
          · exact q
          · -- some label is m, so m is reached
            have hne : ∃ j, j < n ∧ l0 j = m := by
              by_cases w : ∃ j, j < n ∧ l0 j = m
              · exact w
              · have := sumN_0 (f := fun i => b2n (decide (l0 i = m))) (n := n) (fun j hj => by rw [decide_eq_false (fun z => w ⟨j, hj, z⟩)]; rfl)
                omega
            obtain ⟨j, hj, ej⟩ := hne
            have hcj : Cn E j m := by
              have := (Q.1 j hj).2
              rwa [ej] at this
            exact (hcj.iff (P := fun x => l0 x = m) (fun x z hxz hx' => by
              by_cases w : l0 z = m
              · exact w
              · exact absurd ⟨z, x, S x z hxz, hx', w⟩ hx) ej)
        exact ((hc.sy S).iff (P := fun x => l0 x = m) (fun x z hxz hx' => by
          by_cases w : l0 z = m
          · exact w
          · exact absurd ⟨z, x, S x z hxz, hx', w⟩ hx) h0m)
      exact fun i hi hc => keep i hi (all i hi hc)
theorem least {P : Nat → Prop} : ∀ {k : Nat}, P k → ∃ m, m ≤ k ∧ P m ∧ ∀ j, P j → m ≤ j := by
  intro k
  induction k using Nat.strongRecOn with
  | _ k ih =>
    intro hk
    by_cases q : ∃ j, j < k ∧ P j
    · obtain ⟨j, j1, j2⟩ := q
      obtain ⟨m, m1, m2, m3⟩ := ih j j1 j2
      exact ⟨m, by omega, m2, m3⟩
    · exact ⟨k, Nat.le_refl k, hk, fun j hj => by
        by_cases w : k ≤ j
        · exact w
        · exact absurd ⟨j, by omega, hj⟩ q⟩
theorem Lb_end {E : EF} {n : Nat} {l : Nat → Nat} (S : Sy E) (Q : LbQ E n n l) : (∀ i j, i < n → j < n → (Cn E i j ↔ l i = l j)) ∧ NC E n (sumN (fun i => b2n (decide (l i = i))) n) := by
  have full : ∀ i, i < n → ∃ m, m < n ∧ Cn E i m ∧ ∀ j, j < n → Cn E j m → l j = m := fun i hi => by
    obtain ⟨m, m1, ⟨m2, m3⟩, m4⟩ := least (P := fun j => j < n ∧ Cn E i j) (k := i) ⟨hi, Cn.rf i⟩
    refine ⟨m, m2, m3, ?_⟩
    rcases Q.2 m m2 (fun j hj hc => m4 j ⟨hj, m3.tr hc⟩) with h | h
    · exact h
    · have := sumN_bd (f := fun i => b2n (decide (l i = m))) (n := n) (b := 1) (fun i _ => b2n_le _)
      omega
  have key : ∀ i j, i < n → j < n → (Cn E i j ↔ l i = l j) := fun i j hi hj => by
    obtain ⟨m, m1, m2, m3⟩ := full i hi
    constructor
    · intro h
      rw [m3 i hi m2, m3 j hj ((h.sy S).tr m2)]
    · intro h
      have a1 := (Q.1 i hi).2
      have a2 := (Q.1 j hj).2
      rw [← h] at a2
      exact a1.tr (a2.sy S)
  exact ⟨key, l, fun i hi => Q.1 i hi, fun i j hi hj hc => (key i j hi hj).mp hc, rfl⟩
/-! the records' graph -/
def gE (A : AF) : EF := fun i j => decide (i < tot A ∧ j < tot A) && (decide (kyI A i = kyI A j) || ppA A (srI A i) (kyI A i) (srI A j) (kyI A j))
theorem gE_t {A : AF} {i j : Nat} : gE A i j = true ↔ (i < tot A ∧ j < tot A) ∧ (kyI A i = kyI A j ∨ ppA A (srI A i) (kyI A i) (srI A j) (kyI A j) = true) := by
  unfold gE
  rw [Bool.and_eq_true, Bool.or_eq_true, decide_eq_true_eq, decide_eq_true_eq]
theorem gE_sy (A : AF) : Sy (gE A) := fun x y h => by
  rw [gE_t] at h ⊢
  refine ⟨⟨h.1.2, h.1.1⟩, ?_⟩
  rcases h.2 with q | q
  · exact Or.inl q.symm
  · rw [pp_sy] at q
    exact Or.inr q
theorem gE_lk (A : AF) : (∀ i, i < tot A → kyI A i < 1000 ∧ 0 < hoA A (kyI A i)) ∧ (∀ k, k < 1000 → 0 < hoA A k → ∃ i, i < tot A ∧ kyI A i = k) ∧ (∀ i j, gE A i j = true → kyI A i = kyI A j ∨ lk1 A (kyI A i) (kyI A j) = true) ∧ (∀ i j, i < tot A → j < tot A → kyI A i = kyI A j → Cn (gE A) i j) ∧ ∀ i j, i < tot A → j < tot A → lk1 A (kyI A i) (kyI A j) = true → Cn (gE A) i j := by
  have same : ∀ i j, i < tot A → j < tot A → kyI A i = kyI A j → Cn (gE A) i j := fun i j hi hj h => Cn.st (gE_t.mpr ⟨⟨hi, hj⟩, Or.inl h⟩)
  refine ⟨fun i hi => ?_, fun k hk h0 => ?_, fun i j h => ?_, same, fun i j hi hj h => ?_⟩
  · obtain ⟨a1, a2, a3⟩ := ix_ok hi
    exact ⟨a2, hoA_pos a1 a3⟩
  · have : ∃ s, s < 3 ∧ 0 < A s k := by
      have hp := hol_pos h0
      rcases hp with q | q | q
      · exact ⟨0, by decide, by omega⟩
      · exact ⟨1, by decide, by omega⟩
      · exact ⟨2, by decide, by omega⟩
    obtain ⟨s, s1, s2⟩ := this
    obtain ⟨i, i1, -, i3⟩ := ix_on s1 hk s2
    exact ⟨i, i1, i3⟩
  · obtain ⟨⟨hi, hj⟩, h⟩ := gE_t.mp h
    rcases h with q | q
    · exact Or.inl q
    · obtain ⟨a1, a2, -⟩ := ix_ok hi
      obtain ⟨b1, b2, -⟩ := ix_ok hj
      exact Or.inr (lk1_of a2 b2 (lkA_iff.mpr ⟨_, _, a1, b1, q⟩))
  · obtain ⟨⟨h1, h2⟩, h3⟩ := lk1_t h
    obtain ⟨s, o, hs, ho, hp⟩ := lkA_iff.mp h3
    have hp' := of_decide_eq_true hp
    obtain ⟨i', i1, i2, i3⟩ := ix_on hs h1 hp'.2.1
    obtain ⟨j', j1, j2, j3⟩ := ix_on ho h2 hp'.2.2.1
    have e : Cn (gE A) i' j' := Cn.st (gE_t.mpr ⟨⟨i1, j1⟩, Or.inr (by rw [i2, i3, j2, j3]; exact hp)⟩)
    exact ((same i i' hi i1 i3.symm).tr e).tr (same j' j j1 hj j3)
theorem gE_num {A : AF} {l : Nat → Nat} (Q : LbQ (gE A) (tot A) (tot A) l) : NK A (sumN (fun i => b2n (decide (l i = i))) (tot A)) := by
  obtain ⟨a1, a2, a3, a4, a5⟩ := gE_lk A
  exact NC_key a1 a2 a3 a4 a5 (Lb_end (gE_sy A) Q).2
theorem gE_size {A : AF} {l : Nat → Nat} (Q : LbQ (gE A) (tot A) (tot A) l) {i : Nat} (hi : i < tot A) : sumN (fun j => b2n (decide (l j = l i))) (tot A) = gsA A (kyI A i) := by
  obtain ⟨a1, a2, a3, a4, a5⟩ := gE_lk A
  have key := (Lb_end (gE_sy A) Q).1
  have e : sumN (fun j => b2n (decide (l j = l i))) (tot A) = sumN (fun j => b2n ((fun k => cdec (Cn (lk1 A) (kyI A i) k)) (kyI A j))) (tot A) := sumN_eq (fun j hj => by
    congr 1
    by_cases q : l j = l i
    · rw [decide_eq_true q]
      exact (cdec_t.mpr (Cn_up a3 ((key i j hi hj).mpr q.symm))).symm
    · rw [decide_eq_false q]
      exact (cdec_f.mpr (fun w => q ((key i j hi hj).mp (Cn_dn a2 a4 a5 hi hj w)).symm)).symm)
  rw [e]
  exact ix_sum A (fun k => cdec (Cn (lk1 A) (kyI A i) k))
