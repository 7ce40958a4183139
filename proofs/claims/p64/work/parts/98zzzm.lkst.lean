/-! THE LAW: a key, its status, its line -/
theorem st100_ho {A : AF} {k : Nat} (h : stA A k = 100) : 0 < hoA A k := by
  have hd : d3 (A 0 k) (A 1 k) (A 2 k) = true := by
    unfold stA st3 at h
    cases q : d3 (A 0 k) (A 1 k) (A 2 k) with
    | true => rfl
    | false =>
      rw [q, if_neg (by decide)] at h
      split at h <;> cases h
  rw [d3_i] at hd
  unfold hoA
  rw [hol_i]
  rcases hd with z | z | z
  · rw [if_pos (show 0 < A 0 k by omega)]
    omega
  · rw [if_pos (show 0 < A 0 k by omega)]
    omega
  · rw [if_pos (show 0 < A 1 k by omega)]
    omega
def cwk (A : AF) (c k : Nat) : Nat := sumN (fun k => b2n (decide (0 < hoA A k ∧ stA A k = c))) k
theorem cwk_100 (A : AF) (k : Nat) : cwk A 100 k = sumN (fun k => b2n (decide (stA A k = 100))) k := by
  refine sumN_eq (fun j _ => ?_)
  by_cases q : stA A j = 100
  · rw [decide_eq_true q, decide_eq_true ⟨st100_ho q, q⟩]
  · rw [decide_eq_false q, decide_eq_false (fun z => q z.2)]
theorem dk_of {A : AF} {k : Nat} (hk : k < 1000) (h : stA A k = 100) : dkA A (nI (cwk A 100 k)) = some k := by
  rw [cwk_100]
  have h1 := nth_lt (p := fun k => decide (stA A k = 100)) hk (decide_eq_true h)
  have e : cwA A 100 = sumN (fun k => b2n (decide (stA A k = 100))) 1000 := cwk_100 A 1000
  obtain ⟨k', k1, k2, k3, k4⟩ := dk_at (A := A) (r := sumN (fun k => b2n (decide (stA A k = 100))) k) (by rw [e]; exact h1)
  rw [k4]
  refine congrArg some ?_
  by_cases q : k' < k
  · have := nth_lt (p := fun k => decide (stA A k = 100)) q (decide_eq_true k2)
    omega
  · by_cases q2 : k < k'
    · have := nth_lt (p := fun k => decide (stA A k = 100)) q2 (decide_eq_true h)
      omega
    · omega
theorem c3_b (u x y z : Nat) : c3 u x y z ≤ 3 := by
  unfold c3
  repeat' split
  all_goals omega
theorem hoN_z {A : AF} {k : Nat} (h : hoN A k 3 = 0) {s : Nat} (hs : s < 3) : A s k = 0 := by
  have := sumN_zero (f := fun s' => b2n (decide (0 < A s' k))) h hs
  by_cases q : 0 < A s k
  · rw [decide_eq_true q] at this
    cases this
  · omega
section LAW15
variable {N : Nat} {xs : Nat → Int32} {h g hk : Hp} {b : Bk} {y : Nat} {Z : Nat → Prop} {n m : Nat}
/-- a cell of the law's own is written -/
theorem LK.wo (K : LK N xs h b y) {f : Nat → Nat → Int32} (F : ∀ a z, a < 241 ∨ HK h a = 102 → f a z = HI h a z) : LK N xs (wI h f) b y := by
  obtain ⟨m, H, R⟩ := K.rh
  obtain ⟨L, c, A, S, lo⟩ := K.ln
  have G : ∀ a z, a < 241 → f a z = HI h a z := fun a z q => F a z (Or.inl q)
  have GA : ∀ z, f A z = HI h A z := fun z => F A z (Or.inr S.ka)
  refine ⟨K.wf, K.hn, K.2.2.1, ⟨K.ks, K.ko.fr (fun a z ha => G a z (by omega))⟩, ⟨K.sc, fun k => (G 30 k (by decide)).trans (K.xx k)⟩, ?_, ⟨m, H, R.fr (fun a z h1 h2 => G a z (by omega))⟩, ⟨L, c, A, ?_, lo⟩, K.cn, K.bd, K.qv, K.kb⟩
  · have R := K.rk
    exact ⟨R.t.cong (fun i z hi => G _ z (by omega)), R.q.cong (fun i z hi => G _ z (by omega)), fun s hs => by rw [show HI (wI h f) (32 + 15) s = HI h (32 + 15) s from G (32 + 15) s (by omega)]; exact R.tr hs, fun i hi => by rw [show HI (wI h f) (32 + 16) i = HI h (32 + 16) i from G (32 + 16) i (by omega)]; exact R.tt hi, by rw [show HI (wI h f) 32 4 = HI h 32 4 from G 32 4 (by omega)]; exact R.y⟩
  · exact ⟨S.k, S.r, S.ka, S.la, S.an, S.ap, S.hn, (G 239 1 (by decide)).trans S.c0, (G 239 3 (by decide)).trans S.n, S.le, S.c3, fun i hi => by rw [show HI (wI h f) A i = HI h A i from GA i]; exact S.z i hi, fun i hi => by rw [show HI (wI h f) A i = HI h A i from GA i]; exact S.x i hi⟩
theorem LK.si (K : LK N xs h b y) {a i : Nat} (x : Int32) (ha : 241 ≤ a) (hka : HK h a ≠ 102) : LK N xs (sI h a i x) b y := by
  refine K.wo (f := u2 (HI h) a i x) (fun c z q => ?_)
  refine w2_ne (fun w => ?_)
  rcases q with q | q
  · omega
  · exact hka (w.1 ▸ q)
theorem key_max (hc : HK g m = 100 ∧ HL g m = 100) {x z w : Nat} (hv : ∀ v, v < 100 → HI g m v = nI (c3 v x z w)) (r1 a9 : Nat) (l2 l3 l4 l5 l6 : Int32) (v11 : Value) : ∀ d v p, v + d = 100 → 1 ≤ v → p < v → (∀ u, u < v → c3 u x z w ≤ c3 p x z w) → (∀ u, u < p → c3 u x z w < c3 p x z w) → ∃ q, q < 100 ∧ (∀ u, u < 100 → c3 u x z w ≤ c3 q x z w) ∧ (∀ u, u < q → c3 u x z w < c3 q x z w) ∧ RF 204 225 [.ref 31, .ref r1, .int l2, .int l3, .int l4, .int l5, .int l6, .int (nI p), .ref m, .ref a9, .int (nI v), v11] [] g = RF 204 225 [.ref 31, .ref r1, .int l2, .int l3, .int l4, .int l5, .int l6, .int (nI q), .ref m, .ref a9, .int (nI 100), v11] [] g := by
  have hb : ∀ u, c3 u x z w < 4 := fun u => by
    unfold c3
    repeat' split
    all_goals omega
  intro d
  induction d with
  | zero =>
    intro v p h1 h2 h3 h4 h5
    have e : v = 100 := by omega
    subst e
    exact ⟨p, h3, h4, h5, rfl⟩
  | succ d ih =>
    intro v p h1 h2 h3 h4 h5
    have b1 := hb v
    have b2 := hb p
    have ch1 : chI g m 100 (nI v) = true := chI_nI hc.1 hc.2 (by omega) (by decide)
    have ch2 : chI g m 100 (nI p) = true := chI_nI hc.1 hc.2 (by omega) (by decide)
    have hlt : (nI v < (100 : Int32)) = (v < 100) := lt_nI (by omega) (by decide)
    by_cases q : c3 p x z w < c3 v x z w
    · obtain ⟨r, r0, r2, r3, r4⟩ := ih (v + 1) v (by omega) (by omega) (by omega) (fun u hu => by
        by_cases e : u = v
        · subst e
          exact Nat.le_refl _
        · have := h4 u (by omega)
          omega) (fun u hu => by
        have := h4 u (by omega)
        omega)
      refine ⟨r, r0, r2, r3, Eq.trans ?_ r4⟩
      rw [e204_225, if_pos (hlt.mpr (by omega)), ch1, ch2, cl_nI (by omega), cl_nI (by omega), hv v (by omega), hv p (by omega)]
      simp only [cond_true]
      rw [if_pos (show nI (c3 p x z w) < nI (c3 v x z w) by rw [lt_nI (by omega) (by omega)]; exact q), show (nI v + (1 : Int32)) = nI (v + 1) from add_nI v 1]
    · obtain ⟨r, r0, r2, r3, r4⟩ := ih (v + 1) p (by omega) (by omega) (by omega) (fun u hu => by
        by_cases e : u = v
        · subst e
          omega
        · exact h4 u (by omega)) h5
      refine ⟨r, r0, r2, r3, Eq.trans ?_ r4⟩
      rw [e204_225, if_pos (hlt.mpr (by omega)), ch1, ch2, cl_nI (by omega), cl_nI (by omega), hv v (by omega), hv p (by omega)]
      simp only [cond_true]
      rw [if_neg (show ¬(nI (c3 p x z w) < nI (c3 v x z w)) by rw [lt_nI (by omega) (by omega)]; exact q), show (nI v + (1 : Int32)) = nI (v + 1) from add_nI v 1]
/-- the status as a number of the law's -/
def scN (A : AF) (k : Nat) : Int32 := if 0 < hoA A k then nI (stA A k) else (-2004 : Int32)
def mxN (A : AF) (k : Nat) : Nat := if 0 < hoA A k then acA A k else 0
theorem key_status (K : LK N xs hk b y) {k a9 : Nat} (hk1 : k < 1000) (Q : Ky b Z hk g k 3 n a9) (r1 : Nat) (l2 l3 : Int32) (v11 : Value) : RF 204 61 [.ref 31, .ref r1, .int l2, .int l3, .int (1 : Int32), .int (nI k), .int (nI (hoN (kA b) k 3)), .int (0 : Int32), .ref (HN hk), .ref a9, .int (nI (97 + 3)), v11] [] g = RF 204 299 [.ref 31, .ref r1, .int l2, .int l3, .int (1 : Int32), .int (nI k), .int (nI (hoA (kA b) k)), .int (nI (mxN (kA b) k)), .ref (HN hk), .ref a9, .int (nI 100), v11] [.int (scN (kA b) k)] g := by
  obtain ⟨A, ⟨k1, k2, k3⟩, hv, -⟩ := Q
  have h100 := K.a100 hk1
  have hv' : ∀ v, v < 100 → HI g (HN hk) v = nI (c3 v (kA b 0 k) (kA b 1 k) (kA b 2 k)) := fun v hv0 => by
    rw [hv v hv0, ctN_3]
  obtain ⟨q, q0, q1, q2, q3⟩ := key_max ⟨k1, k2⟩ hv' r1 a9 l2 l3 (1 : Int32) (nI k) (nI (hoA (kA b) k)) v11 99 1 0 (by decide) (by decide) (by decide) (fun u hu => by
    have e : u = 0 := by omega
    subst e
    exact Nat.le_refl _) (fun u hu => absurd hu (Nat.not_lt_zero u))
  rw [ho_3, e204_61, if_pos (show (99 : Int32) < nI (97 + 3) by decide)]
  refine Eq.trans q3 ?_
  have hh := ho_le (kA b) k 3
  rw [ho_3] at hh
  have ch : chI g (HN hk) 100 (nI q) = true := chI_nI k1 k2 q0 (by decide)
  rw [e204_225, if_neg (show ¬(nI 100 < (100 : Int32)) by decide)]
  unfold mxN scN
  by_cases z : 0 < hoA (kA b) k
  · have hp : kA b 0 k ≠ 0 ∨ kA b 1 k ≠ 0 ∨ kA b 2 k ≠ 0 := hol_pos z
    obtain ⟨f0, f1⟩ := ac_f1 hp
    have f2 := ac_f2 hp
    have f3 : c3 (acA (kA b) k) (kA b 0 k) (kA b 1 k) (kA b 2 k) < hoA (kA b) k ↔ d3 (kA b 0 k) (kA b 1 k) (kA b 2 k) = true := ac_f3 hp
    have ha : acA (kA b) k < 100 := by
      have a0 := h100 0 (by decide)
      have a1 := h100 1 (by decide)
      have a2 := h100 2 (by decide)
      have := ac_i (kA b 0 k) (kA b 1 k) (kA b 2 k)
      show ac3 (kA b 0 k) (kA b 1 k) (kA b 2 k) < 100
      omega
    have e : q = acA (kA b) k := by
      rcases Nat.lt_trichotomy q (acA (kA b) k) with w | w | w
      · have u1 := f2 q w
        have u2 : c3 (acA (kA b) k) (kA b 0 k) (kA b 1 k) (kA b 2 k) ≤ c3 q (kA b 0 k) (kA b 1 k) (kA b 2 k) := q1 _ ha
        have u1 : c3 q (kA b 0 k) (kA b 1 k) (kA b 2 k) < c3 (acA (kA b) k) (kA b 0 k) (kA b 1 k) (kA b 2 k) := u1
        omega
      · exact w
      · have u1 := q2 (acA (kA b) k) w
        have u2 : c3 q (kA b 0 k) (kA b 1 k) (kA b 2 k) ≤ c3 (acA (kA b) k) (kA b 0 k) (kA b 1 k) (kA b 2 k) := f1 q
        omega
    subst e
    have hb : c3 (acA (kA b) k) (kA b 0 k) (kA b 1 k) (kA b 2 k) ≤ 3 := (c3_b _ _ _ _)
    rw [if_pos z, if_pos z, if_neg (show ¬(nI (hoA (kA b) k) = (0 : Int32)) by rw [eqz_nI (by omega)]; omega), ch, cl_nI (by omega), hv' _ q0]
    simp only [cond_true]
    have st : stA (kA b) k = (if d3 (kA b 0 k) (kA b 1 k) (kA b 2 k) then 100 else if 1 < hoA (kA b) k then 99 else 111) := rfl
    by_cases w : c3 (acA (kA b) k) (kA b 0 k) (kA b 1 k) (kA b 2 k) < hoA (kA b) k
    · rw [if_pos (show nI (c3 (acA (kA b) k) (kA b 0 k) (kA b 1 k) (kA b 2 k)) < nI (hoA (kA b) k) by rw [lt_nI (by omega) (by omega)]; exact w), st, if_pos (f3.mp w)]
      rfl
    · rw [if_neg (show ¬(nI (c3 (acA (kA b) k) (kA b 0 k) (kA b 1 k) (kA b 2 k)) < nI (hoA (kA b) k)) by rw [lt_nI (by omega) (by omega)]; exact w), st, if_neg (fun u => w (f3.mpr u))]
      by_cases t : hoA (kA b) k = 1
      · rw [if_pos (show nI (hoA (kA b) k) = (1 : Int32) by rw [t]; rfl), if_neg (by omega)]
        rfl
      · rw [if_neg (show ¬(nI (hoA (kA b) k) = (1 : Int32)) by rw [show (nI (hoA (kA b) k) = (1 : Int32)) = (hoA (kA b) k = 1) from eq_nI (by omega) (by decide)]; exact t), if_pos (by omega)]
        rfl
  · have e0 : ∀ s, s < 3 → kA b s k = 0 := fun s hs => by
      have := hoN_z (A := kA b) (k := k) (by rw [ho_3]; omega) hs
      exact this
    have ez : ∀ u, c3 u (kA b 0 k) (kA b 1 k) (kA b 2 k) = 0 := fun u => by
      rw [e0 0 (by decide), e0 1 (by decide), e0 2 (by decide)]
      rfl
    have e : q = 0 := by
      by_cases w : q = 0
      · exact w
      · have := q2 0 (by omega)
        rw [ez q] at this
        omega
    subst e
    rw [if_neg z, if_neg z, if_pos (show nI (hoA (kA b) k) = (0 : Int32) by rw [eqz_nI (by omega)]; omega)]
end LAW15
