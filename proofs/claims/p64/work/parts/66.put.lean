/-! A RECORD PUT INTO THE TABLE, AND TAKEN OUT -/
def sA (A : AF) (s k v : Nat) : AF := fun s' k' => if s' = s ∧ k' = k then v else A s' k'
theorem sA_eq (A : AF) (s k v : Nat) : sA A s k v s k = v := if_pos ⟨rfl, rfl⟩
theorem sA_ne {A : AF} {s k v s' k' : Nat} (h : ¬(s' = s ∧ k' = k)) : sA A s k v s' k' = A s' k' := if_neg h
theorem tot_sA (A : AF) {s k v : Nat} (hs : s < 3) (hk : k < 1000) : tot (sA A s k v) + b2n (decide (0 < A s k)) = tot A + b2n (decide (0 < v)) := by
  have h := sumN_bump (f := fun k' => hoA (sA A s k v) k') (g := fun k' => hoA A k') hk (fun j _ hj => by
    unfold hoA
    rw [sA_ne (by omega), sA_ne (by omega), sA_ne (by omega)])
  have h2 : hoA (sA A s k v) k + b2n (decide (0 < A s k)) = hoA A k + b2n (decide (0 < v)) := by
    unfold hoA hol3
    have : s = 0 ∨ s = 1 ∨ s = 2 := by omega
    rcases this with rfl | rfl | rfl
    · rw [sA_eq, sA_ne (by omega), sA_ne (by omega)]
      omega
    · rw [sA_eq, sA_ne (by omega), sA_ne (by omega)]
      omega
    · rw [sA_eq, sA_ne (by omega), sA_ne (by omega)]
      omega
  unfold tot
  omega
theorem nn.of {f : Nat → Nat → Int32} {a k b j : Nat} (h : f a k = nI j) (hj : j < b) : nn f a k b := ⟨j, h, hj⟩
theorem nn.cg {f g : Nat → Nat → Int32} {a k a' k' b : Nat} (h : nn f a k b) (e : g a' k' = f a k) : nn g a' k' b := by
  obtain ⟨j, h1, h2⟩ := h
  exact ⟨j, e.trans h1, h2⟩
theorem rd_cg {f g : Nat → Nat → Int32} {a k a' k' : Nat} (e : g a' k' = f a k) : rd g a' k' = rd f a k := congrArg Int32.toNatClampNeg e
section INS
variable {f : Nat → Nat → Int32} {t : Nat} {A D : AF}
/-- a new row at p -/
def inF (f : Nat → Nat → Int32) (t p s k a d : Nat) : Nat → Nat → Int32 := u2 (u2 (u2 (onF f t p k) t 4 (nI (tm f t + 1))) (t + 3 + s) p (nI a)) (t + 7 + s) p (nI d)
theorem inF_3 {p s k a d : Nat} (hs : s < 3) : inF f t p s k a d t 3 = nI (tn f t + 1) := by
  simp only [inF, onF, zrF, opF, u2]
  repeat' split
  all_goals first | rfl | omega | grind
theorem inF_4 {p s k a d : Nat} (hs : s < 3) : inF f t p s k a d t 4 = nI (tm f t + 1) := by
  simp only [inF, onF, zrF, opF, u2]
  repeat' split
  all_goals first | rfl | omega | grind
theorem inF_k {p s k a d : Nat} (hs : s < 3) (r : Nat) : inF f t p s k a d (t + 1) r = if r < p then f (t + 1) r else if r = p then nI k else if r ≤ tn f t then f (t + 1) (r - 1) else f (t + 1) r := by
  simp only [inF, onF, zrF, opF, u2]
  repeat' split
  all_goals first | rfl | omega | grind
theorem inF_a {p s k a d : Nat} (hs : s < 3) {s' : Nat} (hs' : s' < 3) (r : Nat) : inF f t p s k a d (t + 3 + s') r = if r < p then f (t + 3 + s') r else if r = p then (if s' = s then nI a else nI 0) else if r ≤ tn f t then f (t + 3 + s') (r - 1) else f (t + 3 + s') r := by
  simp only [inF, onF, zrF, opF, u2]
  repeat' split
  all_goals first | rfl | omega | grind
theorem inF_d {p s k a d : Nat} (hs : s < 3) {s' : Nat} (hs' : s' < 3) (r : Nat) : inF f t p s k a d (t + 7 + s') r = if r < p then f (t + 7 + s') r else if r = p then (if s' = s then nI d else nI 0) else if r ≤ tn f t then f (t + 7 + s') (r - 1) else f (t + 7 + s') r := by
  simp only [inF, onF, zrF, opF, u2]
  repeat' split
  all_goals first | rfl | omega | grind
theorem inF_Fr {p s k a d : Nat} (hs : s < 3) : Fr t (t + 10) f (inF f t p s k a d) := by
  intro a x h
  simp only [inF, onF, zrF, opF, u2]
  repeat' split
  all_goals first | rfl | omega | grind
theorem RT.ins (R : RT f t A D) {p s k a d : Nat} (hs : s < 3) (hk : k < 1000) (ha : 0 < a) (ha2 : a < 100) (hd : d < 1073741824) (hn : tn f t < 30) (hm : tot A < 30) (hp : p ≤ tn f t) (h1 : ∀ r, r < p → tk f t r < k) (h2 : ∀ r, p ≤ r → r < tn f t → k < tk f t r) : RT (inF f t p s k a d) t (sA A s k a) (sA D s k d) := by
  have hM := R.m
  have i3 : tn (inF f t p s k a d) t = tn f t + 1 := rd_of (inF_3 hs) (by omega)
  have i4 : tm (inF f t p s k a d) t = tm f t + 1 := rd_of (inF_4 hs) (by omega)
  have ik : ∀ r, tk (inF f t p s k a d) t r = if r < p then tk f t r else if r = p then k else if r ≤ tn f t then tk f t (r - 1) else tk f t r := fun r => by
    unfold tk rd
    rw [inF_k hs]
    split
    · rfl
    · split
      · exact cl_nI (by omega)
      · split <;> rfl
  have ia : ∀ s', s' < 3 → ∀ r, ta (inF f t p s k a d) t s' r = if r < p then ta f t s' r else if r = p then (if s' = s then a else 0) else if r ≤ tn f t then ta f t s' (r - 1) else ta f t s' r := fun s' hs' r => by
    unfold ta rd
    rw [inF_a hs hs']
    split
    · rfl
    · split
      · split
        · exact cl_nI (by omega)
        · exact cl_nI (by omega)
      · split <;> rfl
  have id' : ∀ s', s' < 3 → ∀ r, td (inF f t p s k a d) t s' r = if r < p then td f t s' r else if r = p then (if s' = s then d else 0) else if r ≤ tn f t then td f t s' (r - 1) else td f t s' r := fun s' hs' r => by
    unfold td rd
    rw [inF_d hs hs']
    split
    · rfl
    · split
      · split
        · exact cl_nI (by omega)
        · exact cl_nI (by omega)
      · split <;> rfl
  have N := R.N
  have hno : ∀ s', s' < 3 → A s' k = 0 := fun s' hs' => R.no hs' hk (fun r hr he => by
    rcases Nat.lt_or_ge r p with hl | hl
    · have := h1 r hl
      omega
    · have := h2 r hl hr
      omega)
  refine ⟨⟨.of (inF_3 hs) (by omega), .of (inF_4 hs) (by omega), ?_, ?_, ?_⟩, ?_, ?_, ?_, ?_, ?_⟩
  · intro r hr
    have e := inF_k (f := f) (t := t) (p := p) (k := k) (a := a) (d := d) hs r
    split at e
    · exact (N.2.2.1 r hr).cg e
    · split at e
      · exact .of e hk
      · split at e
        · exact (N.2.2.1 (r - 1) (by omega)).cg e
        · exact (N.2.2.1 r hr).cg e
  · intro s' hs' r hr
    have e := inF_a (f := f) (t := t) (p := p) (k := k) (a := a) (d := d) hs hs' r
    split at e
    · exact (N.2.2.2.1 s' hs' r hr).cg e
    · split at e
      · split at e
        · exact .of e ha2
        · exact .of e (by decide)
      · split at e
        · exact (N.2.2.2.1 s' hs' (r - 1) (by omega)).cg e
        · exact (N.2.2.2.1 s' hs' r hr).cg e
  · intro s' hs' r hr
    have e := inF_d (f := f) (t := t) (p := p) (k := k) (a := a) (d := d) hs hs' r
    split at e
    · exact (N.2.2.2.2 s' hs' r hr).cg e
    · split at e
      · split at e
        · exact .of e hd
        · exact .of e (by decide)
      · split at e
        · exact (N.2.2.2.2 s' hs' (r - 1) (by omega)).cg e
        · exact (N.2.2.2.2 s' hs' r hr).cg e
  · intro r r' h3 h4
    rw [i3] at h4
    rw [ik, ik]
    by_cases q1 : r' < p
    · rw [if_pos (by omega), if_pos q1]
      exact R.lt h3 (by omega)
    · by_cases q2 : r' = p
      · rw [if_pos (by omega), if_neg q1, if_pos q2]
        exact h1 r (by omega)
      · rw [if_neg (c := r' < p) q1, if_neg q2, if_pos (by omega : r' ≤ tn f t)]
        by_cases q3 : r < p
        · rw [if_pos q3]
          have := h1 r q3
          have := h2 (r' - 1) (by omega) (by omega)
          omega
        · by_cases q4 : r = p
          · rw [if_neg q3, if_pos q4]
            exact h2 (r' - 1) (by omega) (by omega)
          · rw [if_neg q3, if_neg q4, if_pos (by omega)]
            exact R.lt (by omega) (by omega)
  · intro r hr
    rw [i3] at hr
    rw [ia 0 (by decide), ia 1 (by decide), ia 2 (by decide)]
    by_cases q1 : r < p
    · simp only [q1, if_true]
      exact R.ne (by omega)
    · by_cases q2 : r = p
      · simp only [q1, q2, if_true, if_false, Nat.lt_irrefl]
        unfold hol3 b2n
        have : s = 0 ∨ s = 1 ∨ s = 2 := by omega
        rcases this with rfl | rfl | rfl <;> simp [ha]
      · simp only [q1, q2, if_false, show r ≤ tn f t by omega, if_true]
        exact R.ne (by omega)
  · intro s' r hs' hr
    rw [i3] at hr
    rw [ik, ia s' hs', id' s' hs']
    by_cases q1 : r < p
    · have := h1 r q1
      simp only [q1, if_true]
      rw [sA_ne (by omega), sA_ne (by omega)]
      exact ⟨R.a hs' (by omega), R.d hs' (by omega)⟩
    · by_cases q2 : r = p
      · subst q2
        simp only [Nat.lt_irrefl, if_true, if_false]
        by_cases q3 : s' = s
        · subst q3
          simp only [if_true]
          exact ⟨sA_eq _ _ _ _, fun _ => sA_eq _ _ _ _⟩
        · rw [sA_ne (by omega), if_neg q3, hno s' hs']
          exact ⟨rfl, fun h => absurd h (Nat.lt_irrefl 0)⟩
      · have := h2 (r - 1) (by omega) (by omega)
        simp only [q1, q2, if_false, show r ≤ tn f t by omega, if_true]
        rw [sA_ne (by omega), sA_ne (by omega)]
        exact ⟨R.a hs' (by omega), R.d hs' (by omega)⟩
  · intro s' k' hs' hk' hh
    rw [i3] at hh
    have hkp : k' ≠ k := fun he => hh p (by omega) (by
      rw [ik, if_neg (Nat.lt_irrefl _), if_pos rfl, he])
    rw [sA_ne (by omega)]
    refine R.no hs' hk' (fun r hr => ?_)
    by_cases q1 : r < p
    · have := hh r (by omega)
      rw [ik, if_pos q1] at this
      exact this
    · have := hh (r + 1) (by omega)
      rw [ik, if_neg (by omega), if_neg (by omega), if_pos (by omega), Nat.add_sub_cancel] at this
      exact this
  · have := tot_sA A (v := a) hs hk
    rw [hno s hs] at this
    simp only [Nat.lt_irrefl, decide_false, ha, decide_true, b2n, Bool.false_eq_true, if_true, if_false] at this
    omega
end INS
