/-! THE TABLE: put, level, remove -/
theorem u2_self {f : Nat → Nat → Int32} {a k : Nat} {v : Int32} (h : f a k = v) : u2 f a k v = f := by
  funext a' k'
  unfold u2
  split
  · rename_i hh
    rw [hh.1, hh.2, h]
  · rfl
theorem hol3_pos {x y z : Nat} : 0 < hol3 x y z ↔ 0 < x ∨ 0 < y ∨ 0 < z := by
  unfold hol3 b2n
  grind
theorem sA_self {A : AF} {s k v : Nat} (h : A s k = v) : sA A s k v = A := by
  funext s' k'
  unfold sA
  split
  · rename_i hh
    rw [hh.1, hh.2, h]
  · rfl
section UPD
variable {f g : Nat → Nat → Int32} {t : Nat} {A D : AF}
theorem RT.cgD (R : RT f t A D) {D' : AF} (h : ∀ s k, s < 3 → k < 1000 → 0 < A s k → D' s k = D s k) : RT f t A D' := by
  refine ⟨R.1, R.2.1, R.2.2.1, fun s r hs hr => ⟨R.a hs hr, fun h0 => ?_⟩, R.2.2.2.2⟩
  rw [h s _ hs (R.k9 hr) (by rw [R.a hs hr]; exact h0)]
  exact R.d hs hr h0
theorem RT.upd (R : RT f t A D) {r s a d : Nat} (hs : s < 3) (hr : r < tn f t) (ha2 : a < 100) (hd : d < 1073741824) (g3 : g t 3 = f t 3) (g4 : g t 4 = nI (tot (sA A s (tk f t r) a))) (hm : tot (sA A s (tk f t r) a) < 31) (gk : ∀ x, g (t + 1) x = f (t + 1) x) (ga : ∀ s', s' < 3 → ∀ x, g (t + 3 + s') x = if x = r ∧ s' = s then nI a else f (t + 3 + s') x) (gd : ∀ s', s' < 3 → ∀ x, g (t + 7 + s') x = if x = r ∧ s' = s then nI d else f (t + 7 + s') x) (hne : 0 < a ∨ ∃ s', s' < 3 ∧ s' ≠ s ∧ 0 < ta f t s' r) : RT g t (sA A s (tk f t r) a) (sA D s (tk f t r) d) := by
  have N := R.N
  have n30 := R.n30
  have i3 : tn g t = tn f t := rd_cg g3
  have i4 : tm g t = tot (sA A s (tk f t r) a) := rd_of g4 (by omega)
  have ik : ∀ x, tk g t x = tk f t x := fun x => rd_cg (gk x)
  have ia : ∀ s', s' < 3 → ∀ x, ta g t s' x = if x = r ∧ s' = s then a else ta f t s' x := fun s' hs' x => by
    unfold ta rd
    rw [ga s' hs']
    split
    · exact cl_nI (by omega)
    · rfl
  have id' : ∀ s', s' < 3 → ∀ x, td g t s' x = if x = r ∧ s' = s then d else td f t s' x := fun s' hs' x => by
    unfold td rd
    rw [gd s' hs']
    split
    · exact cl_nI (by omega)
    · rfl
  refine ⟨⟨N.1.cg g3, .of g4 hm, fun x hx => (N.2.2.1 x hx).cg (gk x), ?_, ?_⟩, ?_, ?_, ?_, ?_, i4⟩
  · intro s' hs' x hx
    have e := ga s' hs' x
    split at e
    · exact .of e ha2
    · exact (N.2.2.2.1 s' hs' x hx).cg e
  · intro s' hs' x hx
    have e := gd s' hs' x
    split at e
    · exact .of e hd
    · exact (N.2.2.2.2 s' hs' x hx).cg e
  · intro x x' h1 h2
    rw [ik, ik]
    exact R.lt h1 (by omega)
  · intro x hx
    have h1 := R.ne (r := x) (by omega)
    rw [ia 0 (by decide), ia 1 (by decide), ia 2 (by decide)]
    by_cases hxr : x = r
    · subst hxr
      simp only [true_and]
      rw [hol3_pos]
      rcases hne with hne | ⟨s', q1, q2, q3⟩
      · have : s = 0 ∨ s = 1 ∨ s = 2 := by omega
        rcases this with rfl | rfl | rfl
        · exact .inl (by rw [if_pos rfl]; exact hne)
        · exact .inr (.inl (by rw [if_pos rfl]; exact hne))
        · exact .inr (.inr (by rw [if_pos rfl]; exact hne))
      · have : s' = 0 ∨ s' = 1 ∨ s' = 2 := by omega
        rcases this with rfl | rfl | rfl
        · exact .inl (by rw [if_neg q2]; exact q3)
        · exact .inr (.inl (by rw [if_neg q2]; exact q3))
        · exact .inr (.inr (by rw [if_neg q2]; exact q3))
    · simp only [hxr, false_and, if_false]
      exact h1
  · intro s' x hs' hx
    rw [ik, ia s' hs', id' s' hs']
    by_cases hc : x = r ∧ s' = s
    · rw [if_pos hc, if_pos hc]
      obtain ⟨rfl, rfl⟩ := hc
      exact ⟨sA_eq _ _ _ _, fun _ => sA_eq _ _ _ _⟩
    · rw [if_neg hc, if_neg hc]
      have hk : ¬(s' = s ∧ tk f t x = tk f t r) := fun hh => hc ⟨R.inj (by omega) hr hh.2, hh.1⟩
      rw [sA_ne hk, sA_ne hk]
      exact ⟨R.a hs' (by omega), R.d hs' (by omega)⟩
  · intro s' k' hs' hk' hh
    have hk : ¬(s' = s ∧ k' = tk f t r) := fun q => hh r (by omega) (by rw [ik]; exact q.2.symm)
    rw [sA_ne hk]
    exact R.no hs' hk' (fun x hx => by rw [← ik]; exact hh x (by omega))
theorem RT.del (R : RT f t A D) {r s : Nat} (hs : s < 3) (hr : r < tn f t) (h0 : 0 < ta f t s r) (h1 : ∀ s', s' < 3 → s' ≠ s → ta f t s' r = 0) (hN : TbN g t) (g3 : tn g t = tn f t - 1) (g4 : tm g t = tm f t - 1) (gk : ∀ x, x < tn f t - 1 → tk g t x = if r ≤ x then tk f t (x + 1) else tk f t x) (ga : ∀ s', s' < 3 → ∀ x, x < tn f t - 1 → ta g t s' x = if r ≤ x then ta f t s' (x + 1) else ta f t s' x) (gd : ∀ s', s' < 3 → ∀ x, x < tn f t - 1 → td g t s' x = if r ≤ x then td f t s' (x + 1) else td f t s' x) : RT g t (sA A s (tk f t r) 0) D := by
  refine ⟨hN, ?_, ?_, ?_, ?_, ?_⟩
  · intro x x' q1 q2
    rw [gk x (by omega), gk x' (by omega)]
    by_cases q3 : r ≤ x
    · rw [if_pos q3, if_pos (by omega)]
      exact R.lt (by omega) (by omega)
    · rw [if_neg q3]
      split
      · exact R.lt (by omega) (by omega)
      · exact R.lt (by omega) (by omega)
  · intro x hx
    rw [ga 0 (by decide) x (by omega), ga 1 (by decide) x (by omega), ga 2 (by decide) x (by omega)]
    by_cases q3 : r ≤ x
    · simp only [q3, if_true]
      exact R.ne (by omega)
    · simp only [q3, if_false]
      exact R.ne (by omega)
  · intro s' x hs' hx
    rw [gk x (by omega), ga s' hs' x (by omega), gd s' hs' x (by omega)]
    by_cases q3 : r ≤ x
    · have := R.lt (r := r) (r' := x + 1) (by omega) (by omega)
      simp only [q3, if_true]
      rw [sA_ne (by omega)]
      exact ⟨R.a hs' (by omega), R.d hs' (by omega)⟩
    · have := R.lt (r := x) (r' := r) (by omega) (by omega)
      simp only [q3, if_false]
      rw [sA_ne (by omega)]
      exact ⟨R.a hs' (by omega), R.d hs' (by omega)⟩
  · intro s' k' hs' hk' hh
    by_cases hk : k' = tk f t r
    · by_cases q : s' = s
      · subst hk
        subst q
        exact sA_eq _ _ _ _
      · rw [sA_ne (by omega), hk, R.a hs' hr, h1 s' hs' q]
    · rw [sA_ne (by omega)]
      refine R.no hs' hk' (fun x hx he => ?_)
      rcases Nat.lt_trichotomy x r with hl | hl | hl
      · have := hh x (by omega)
        rw [gk x (by omega), if_neg (by omega)] at this
        exact this he
      · subst hl
        exact hk he.symm
      · have := hh (x - 1) (by omega)
        rw [gk (x - 1) (by omega), if_pos (by omega), show x - 1 + 1 = x by omega] at this
        exact this he
  · have q1 := tot_sA A (s := s) (k := tk f t r) (v := 0) hs (R.k9 hr)
    rw [R.a hs hr] at q1
    have q2 := R.m
    simp only [h0, decide_true, b2n, if_true, Nat.lt_irrefl, decide_false, Bool.false_eq_true, if_false] at q1
    omega
theorem RT.tn_tot (R : RT f t A D) : tn f t ≤ tot A := by
  have h1 := R.sum (F := fun k => hoA A k) (G := fun r => hoA A (tk f t r)) (fun r _ => rfl) (fun k hk h0 h1 h2 => by simp [hoA, hol3, b2n, h0, h1, h2])
  unfold tot
  rw [← h1]
  refine Nat.le_trans (Nat.le_of_eq ?_) (sumN_le (f := fun _ => 1) (fun r hr => ?_))
  · rw [sumN_c]
    omega
  · rw [R.ho hr]
    exact R.ne hr
end UPD
