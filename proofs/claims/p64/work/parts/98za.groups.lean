/-! GROUPS -/
/-- b is reached from a -/
def Cn (E : EF) (a b : Nat) : Prop := ∀ P : Nat → Prop, P a → (∀ x y, E x y = true → P x → P y) → P b
theorem Cn.rf {E : EF} (a : Nat) : Cn E a a := fun _ h _ => h
theorem Cn.st {E : EF} {a b : Nat} (h : E a b = true) : Cn E a b := fun _ ha hs => hs a b h ha
theorem Cn.tr {E : EF} {a b c : Nat} (h : Cn E a b) (k : Cn E b c) : Cn E a c := fun P ha hs => k P (h P ha hs) hs
def Sy (E : EF) : Prop := ∀ x y, E x y = true → E y x = true
theorem Cn.sy {E : EF} (S : Sy E) {a b : Nat} (h : Cn E a b) : Cn E b a := h (fun x => Cn E x a) (Cn.rf a) (fun x y hxy hx => (Cn.st (S x y hxy)).tr hx)
theorem Cn.iff {E : EF} {a b : Nat} (h : Cn E a b) {P : Nat → Prop} (hs : ∀ x y, E x y = true → P x → P y) (ha : P a) : P b := h P ha hs
/-- z is the number of groups among n -/
def NC (E : EF) (n z : Nat) : Prop := ∃ rep : Nat → Nat, (∀ i, i < n → rep i < n ∧ Cn E i (rep i)) ∧ (∀ i j, i < n → j < n → Cn E i j → rep i = rep j) ∧ z = sumN (fun i => b2n (decide (rep i = i))) n
theorem ab_sy (a b : Nat) : ab a b = ab b a := by
  unfold ab
  split <;> split <;> omega
theorem pp_sy (A : AF) (s k o k' : Nat) : ppA A s k o k' = ppA A o k' s k := by
  unfold ppA
  rw [decide_eq_decide, ab_sy k k', ab_sy (A s k) (A o k')]
  constructor
  · rintro ⟨h1, h2, h3, h4, h5, h6, h7⟩
    exact ⟨fun q => h1 q.symm, h3, h2, h5, h4, h6, h7⟩
  · rintro ⟨h1, h2, h3, h4, h5, h6, h7⟩
    exact ⟨fun q => h1 q.symm, h3, h2, h5, h4, h6, h7⟩
theorem lkA_iff {A : AF} {k k' : Nat} : lkA A k k' = true ↔ ∃ s o, s < 3 ∧ o < 3 ∧ ppA A s k o k' = true := by
  unfold lkA
  constructor
  · intro h
    rw [Bool.or_eq_true, Bool.or_eq_true, Bool.or_eq_true, Bool.or_eq_true, Bool.or_eq_true] at h
    rcases h with ((((h | h) | h) | h) | h) | h
    · exact ⟨0, 1, by decide, by decide, h⟩
    · exact ⟨0, 2, by decide, by decide, h⟩
    · exact ⟨1, 0, by decide, by decide, h⟩
    · exact ⟨1, 2, by decide, by decide, h⟩
    · exact ⟨2, 0, by decide, by decide, h⟩
    · exact ⟨2, 1, by decide, by decide, h⟩
  · rintro ⟨s, o, hs, ho, h⟩
    have hne : s ≠ o := (of_decide_eq_true h).1
    have hs' : s = 0 ∨ s = 1 ∨ s = 2 := by omega
    have ho' : o = 0 ∨ o = 1 ∨ o = 2 := by omega
    rcases hs' with rfl | rfl | rfl <;> rcases ho' with rfl | rfl | rfl <;> first | exact absurd rfl hne | simp only [h, Bool.true_or, Bool.or_true]
theorem lkA_sy {A : AF} {k k' : Nat} (h : lkA A k k' = true) : lkA A k' k = true := by
  obtain ⟨s, o, hs, ho, hp⟩ := lkA_iff.mp h
  rw [pp_sy] at hp
  exact lkA_iff.mpr ⟨o, s, ho, hs, hp⟩
theorem lkA_ho {A : AF} {k k' : Nat} (h : lkA A k k' = true) : 0 < hoA A k ∧ 0 < hoA A k' := by
  obtain ⟨s, o, hs, ho, hp⟩ := lkA_iff.mp h
  have := of_decide_eq_true hp
  exact ⟨hoA_pos hs this.2.1, hoA_pos ho this.2.2.1⟩
def lk1 (A : AF) : EF := fun k k' => decide (k < 1000 ∧ k' < 1000) && lkA A k k'
theorem lk1_t {A : AF} {k k' : Nat} (h : lk1 A k k' = true) : (k < 1000 ∧ k' < 1000) ∧ lkA A k k' = true := by
  unfold lk1 at h
  rw [Bool.and_eq_true] at h
  exact ⟨of_decide_eq_true h.1, h.2⟩
theorem lk1_of {A : AF} {k k' : Nat} (h1 : k < 1000) (h2 : k' < 1000) (h : lkA A k k' = true) : lk1 A k k' = true := by
  unfold lk1
  rw [decide_eq_true ⟨h1, h2⟩, h]
  rfl
theorem lk1_sy (A : AF) : Sy (lk1 A) := fun x y h => by
  obtain ⟨⟨h1, h2⟩, h3⟩ := lk1_t h
  exact lk1_of h2 h1 (lkA_sy h3)
/-- z is the number of groups, by keys -/
def NK (A : AF) (z : Nat) : Prop := ∃ rep : Nat → Nat, (∀ k, k < 1000 → 0 < hoA A k → rep k < 1000 ∧ 0 < hoA A (rep k) ∧ Cn (lk1 A) k (rep k)) ∧ (∀ k k', k < 1000 → k' < 1000 → 0 < hoA A k → 0 < hoA A k' → Cn (lk1 A) k k' → rep k = rep k') ∧ z = sumN (fun k => b2n (decide (0 < hoA A k ∧ rep k = k))) 1000
theorem NK_le {A : AF} {z z' : Nat} (h : NK A z) (h' : NK A z') : z ≤ z' := by
  obtain ⟨rep, a1, a2, rfl⟩ := h
  obtain ⟨rep', b1, b2, rfl⟩ := h'
  refine sum_inj rep' (fun k hk hp => ?_) (fun k k' hk hk' hp hp' he => ?_)
  · obtain ⟨p1, p2⟩ := of_decide_eq_true hp
    obtain ⟨q1, q2, q3⟩ := b1 k hk p1
    exact ⟨q1, decide_eq_true ⟨q2, (b2 k (rep' k) hk q1 p1 q2 q3).symm⟩⟩
  · obtain ⟨p1, p2⟩ := of_decide_eq_true hp
    obtain ⟨p1', p2'⟩ := of_decide_eq_true hp'
    have c1 := (b1 k hk p1).2.2
    have c2 := (b1 k' hk' p1').2.2
    rw [← he] at c2
    have := a2 k k' hk hk' p1 p1' (c1.tr (c2.sy (lk1_sy A)))
    omega
theorem NK_eq {A : AF} {z z' : Nat} (h : NK A z) (h' : NK A z') : z = z' := Nat.le_antisymm (NK_le h h') (NK_le h' h)
section KX
variable {A : AF} {E : EF} {n : Nat} {kf : Nat → Nat}
theorem Cn_up (hE : ∀ i j, E i j = true → kf i = kf j ∨ lk1 A (kf i) (kf j) = true) {i j : Nat} (h : Cn E i j) : Cn (lk1 A) (kf i) (kf j) := h (fun x => Cn (lk1 A) (kf i) (kf x)) (Cn.rf _) (fun x y hxy hx => by
  rcases hE x y hxy with z | z
  · rw [← z]
    exact hx
  · exact hx.tr (Cn.st z))
theorem Cn_dn (hon : ∀ k, k < 1000 → 0 < hoA A k → ∃ i, i < n ∧ kf i = k) (hsame : ∀ i j, i < n → j < n → kf i = kf j → Cn E i j) (hlk : ∀ i j, i < n → j < n → lk1 A (kf i) (kf j) = true → Cn E i j) {i j : Nat} (hi : i < n) (hj : j < n) (h : Cn (lk1 A) (kf i) (kf j)) : Cn E i j := h (fun k => ∀ j, j < n → kf j = k → Cn E i j) (fun j hj he => hsame i j hi hj he.symm) (fun x y hxy hx j hj he => by
  obtain ⟨⟨h1, h2⟩, h3⟩ := lk1_t hxy
  obtain ⟨a, a1, a2⟩ := hon x h1 (lkA_ho h3).1
  refine (hx a a1 a2).tr (hlk a j a1 hj ?_)
  rw [a2, he]
  exact hxy) j hj rfl
theorem NC_key {z : Nat} (hk : ∀ i, i < n → kf i < 1000 ∧ 0 < hoA A (kf i)) (hon : ∀ k, k < 1000 → 0 < hoA A k → ∃ i, i < n ∧ kf i = k) (hE : ∀ i j, E i j = true → kf i = kf j ∨ lk1 A (kf i) (kf j) = true) (hsame : ∀ i j, i < n → j < n → kf i = kf j → Cn E i j) (hlk : ∀ i j, i < n → j < n → lk1 A (kf i) (kf j) = true → Cn E i j) (H : NC E n z) : NK A z := by
  obtain ⟨rep, a1, a2, rfl⟩ := H
  have ix : ∃ f : Nat → Nat, ∀ k, k < 1000 → 0 < hoA A k → f k < n ∧ kf (f k) = k := by
    refine ⟨fun k => @dite _ (∃ i, i < n ∧ kf i = k) (Classical.propDecidable _) (fun h => Classical.choose h) (fun _ => 0), fun k h1 h2 => ?_⟩
    have hx := hon k h1 h2
    dsimp only
    rw [dif_pos hx]
    exact Classical.choose_spec hx
  obtain ⟨f, hf⟩ := ix
  refine ⟨fun k => kf (rep (f k)), fun k h1 h2 => ?_, fun k k' h1 h1' h2 h2' hc => ?_, ?_⟩
  · obtain ⟨f1, f2⟩ := hf k h1 h2
    obtain ⟨r1, r2⟩ := a1 (f k) f1
    obtain ⟨k1, k2⟩ := hk _ r1
    refine ⟨k1, k2, ?_⟩
    have := Cn_up hE r2
    rw [f2] at this
    exact this
  · obtain ⟨f1, f2⟩ := hf k h1 h2
    obtain ⟨f1', f2'⟩ := hf k' h1' h2'
    rw [← f2, ← f2'] at hc
    have := a2 _ _ f1 f1' (Cn_dn hon hsame hlk f1 f1' hc)
    dsimp only
    rw [this]
  · refine Nat.le_antisymm (sum_inj kf (fun i hi hp => ?_) (fun i j hi hj hp hp' he => ?_)) (sum_inj (fun k => rep (f k)) (fun k h1 hp => ?_) (fun k k' h1 h1' hp hp' he => ?_))
    · have hp := of_decide_eq_true hp
      obtain ⟨k1, k2⟩ := hk i hi
      obtain ⟨f1, f2⟩ := hf _ k1 k2
      have := a2 _ _ f1 hi (hsame _ _ f1 hi f2)
      refine ⟨k1, decide_eq_true ⟨k2, ?_⟩⟩
      show kf (rep (f (kf i))) = kf i
      rw [this, hp]
    · have hp := of_decide_eq_true hp
      have hp' := of_decide_eq_true hp'
      have := a2 i j hi hj (hsame i j hi hj he)
      omega
    · obtain ⟨p1, p2⟩ := of_decide_eq_true hp
      obtain ⟨f1, f2⟩ := hf k h1 p1
      obtain ⟨r1, r2⟩ := a1 (f k) f1
      exact ⟨r1, decide_eq_true (a2 _ _ f1 r1 r2).symm⟩
    · obtain ⟨p1, p2⟩ := of_decide_eq_true hp
      obtain ⟨p1', p2'⟩ := of_decide_eq_true hp'
      dsimp only at he p2 p2'
      rw [← p2, ← p2', he]
end KX
