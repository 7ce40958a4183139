/-! MATCHINGS AND COVERS -/
noncomputable def cdec (P : Prop) : Bool := @decide P (Classical.propDecidable P)
theorem cdec_t {P : Prop} : cdec P = true ↔ P := by
  unfold cdec
  exact @decide_eq_true_iff P (Classical.propDecidable P)
theorem cdec_f {P : Prop} : cdec P = false ↔ ¬P := by
  constructor
  · intro h hp
    rw [cdec_t.mpr hp] at h
    cases h
  · intro h
    cases hc : cdec P with
    | false => rfl
    | true => exact absurd (cdec_t.mp hc) h
theorem b2n_le (b : Bool) : b2n b ≤ 1 := by cases b <;> decide
/-- an injection: no more places there than here -/
theorem sum_inj {p q : Nat → Bool} {n N : Nat} (f : Nat → Nat) (h1 : ∀ i, i < n → p i = true → f i < N ∧ q (f i) = true) (h2 : ∀ i j, i < n → j < n → p i = true → p j = true → f i = f j → i = j) : sumN (fun i => b2n (p i)) n ≤ sumN (fun k => b2n (q k)) N := by
  have e1 : sumN (fun i => b2n (p i)) n = sumN (fun i => sumN (fun k => b2n (p i && decide (f i = k))) N) n := sumN_eq (fun i hi => by
    cases hp : p i with
    | false =>
      rw [sumN_0 (fun k _ => by rw [Bool.false_and]; rfl)]
      rfl
    | true =>
      have := (h1 i hi hp).1
      rw [sumN_one (i := f i) this (fun k _ hk => by rw [decide_eq_false (fun z => hk z.symm)]; rfl)]
      rw [decide_eq_true rfl]
      rfl)
  rw [e1, sumN_comm]
  refine sumN_le (fun k hk => ?_)
  by_cases hx : ∃ i, i < n ∧ p i = true ∧ f i = k
  · obtain ⟨i, i1, i2, i3⟩ := hx
    have hq := (h1 i i1 i2).2
    rw [i3] at hq
    rw [hq, sumN_one (i := i) i1 (fun j hj hne => by
      cases hpj : p j with
      | false => rfl
      | true =>
        rw [decide_eq_false (fun z => hne (h2 j i hj i1 hpj i2 (z.trans i3.symm)))]
        rfl)]
    exact b2n_le _
  · rw [sumN_0 (fun i hi => by
      cases hp : p i with
      | false => rfl
      | true =>
        rw [decide_eq_false (fun z => hx ⟨i, hi, hp, z⟩)]
        rfl)]
    exact Nat.zero_le _
theorem sum_img {p : Nat → Bool} {n N : Nat} (f : Nat → Nat) (h1 : ∀ i, i < n → p i = true → f i < N) (h2 : ∀ i j, i < n → j < n → p i = true → p j = true → f i = f j → i = j) : sumN (fun k => b2n (cdec (∃ i, i < n ∧ p i = true ∧ f i = k))) N = sumN (fun i => b2n (p i)) n := by
  refine Nat.le_antisymm ?_ (sum_inj f (fun i hi hp => ⟨h1 i hi hp, cdec_t.mpr ⟨i, hi, hp, rfl⟩⟩) h2)
  refine sum_inj (fun k => @dite _ (∃ i, i < n ∧ p i = true ∧ f i = k) (Classical.propDecidable _) (fun h => Classical.choose h) (fun _ => 0)) (fun k hk hp => ?_) (fun k k' hk hk' hp hp' he => ?_)
  · have hx := cdec_t.mp hp
    have := Classical.choose_spec hx
    try dsimp only
    rw [dif_pos hx]
    exact ⟨this.1, this.2.1⟩
  · have hx := cdec_t.mp hp
    have hx' := cdec_t.mp hp'
    have e1 := Classical.choose_spec hx
    have e2 := Classical.choose_spec hx'
    try dsimp only at he
    rw [dif_pos hx, dif_pos hx'] at he
    rw [← e1.2.2, ← e2.2.2, he]
abbrev EF : Type := Nat → Nat → Bool
abbrev MF : Type := Nat → Option Nat
/-- z is the greatest number of pairs: a matching and a cover of that many -/
def MCk (E : EF) (N z : Nat) : Prop := (∃ u : MF, (∀ k k', u k = some k' → k < N ∧ k' < N ∧ E k k' = true) ∧ (∀ k1 k2 k', u k1 = some k' → u k2 = some k' → k1 = k2) ∧ sumN (fun k => b2n (u k).isSome) N = z) ∧ ∃ cL cR : Nat → Bool, (∀ k k', E k k' = true → cL k = true ∨ cR k' = true) ∧ sumN (fun k => b2n (cL k)) N + sumN (fun k => b2n (cR k)) N = z
theorem MC_le {E : EF} {N z z' : Nat} (h : MCk E N z) (h' : MCk E N z') : z ≤ z' := by
  obtain ⟨⟨u, u1, u2, u3⟩, _⟩ := h
  obtain ⟨_, cL, cR, c1, c2⟩ := h'
  rw [← u3, ← c2]
  have e : sumN (fun k => b2n (u k).isSome) N = sumN (fun k => b2n ((u k).isSome && cL k)) N + sumN (fun k => b2n ((u k).isSome && !cL k)) N := by
    rw [← sumN_add]
    exact sumN_eq (fun k _ => by cases (u k).isSome <;> cases cL k <;> rfl)
  rw [e]
  refine Nat.add_le_add (sumN_le (fun k _ => by cases (u k).isSome <;> cases cL k <;> decide)) ?_
  refine sum_inj (fun k => (u k).getD 0) (fun k hk hp => ?_) (fun k k' hk hk' hp hp' he => ?_)
  · rw [Bool.and_eq_true] at hp
    obtain ⟨p1, p2⟩ := hp
    cases hu : u k with
    | none =>
      rw [hu] at p1
      cases p1
    | some k' =>
      obtain ⟨q1, q2, q3⟩ := u1 k k' hu
      refine ⟨q2, ?_⟩
      rcases c1 k k' q3 with z | z
      · rw [z] at p2
        cases p2
      · exact z
  · rw [Bool.and_eq_true] at hp hp'
    cases hu : u k with
    | none =>
      rw [hu] at hp
      cases hp.1
    | some j =>
      cases hu' : u k' with
      | none =>
        rw [hu'] at hp'
        cases hp'.1
      | some j' =>
        try dsimp only at he
        rw [hu, hu'] at he
        have he : j = j' := he
        subst he
        exact u2 k k' j hu hu'
theorem MC_eq {E : EF} {N z z' : Nat} (h : MCk E N z) (h' : MCk E N z') : z = z' := Nat.le_antisymm (MC_le h h') (MC_le h' h)
/-- rows in pairs -/
def MT (E : EF) (m : MF) : Prop := ∀ i j, m i = some j → m j = some i ∧ (E i j = true ∨ E j i = true)
/-- no row is on both sides; edges lie below n -/
def LR (E : EF) (n : Nat) : Prop := (∀ i j, E i j = true → i < n ∧ j < n) ∧ ∀ i j k, E i j = true → E k i = false
/-- row i is a matched left row -/
def ml (E : EF) (m : MF) (i : Nat) : Bool := match m i with
  | some j => E i j
  | none => false
/-- all that the rows of F reach lies in G, and G is matched into F -/
def CS (E : EF) (m : MF) (F G : Nat → Prop) : Prop := (∀ i j, F i → E i j = true → G j) ∧ ∀ j, G j → ∃ i, m j = some i ∧ F i ∧ E i j = true
theorem ml_some {E : EF} {m : MF} {i : Nat} (h : ml E m i = true) : ∃ j, m i = some j ∧ E i j = true := by
  unfold ml at h
  cases hm : m i with
  | none =>
    rw [hm] at h
    cases h
  | some j =>
    rw [hm] at h
    exact ⟨j, rfl, h⟩
theorem ml_of {E : EF} {m : MF} {i j : Nat} (h : m i = some j) (he : E i j = true) : ml E m i = true := by
  unfold ml
  rw [h]
  exact he
/-- from rows to keys -/
theorem MC_rows {E EK : EF} {n N : Nat} {m : MF} {F G : Nat → Prop} (L : LR E n) (hm : MT E m) (hc : CS E m F G) (ha : ∀ i, i < n → ml E m i = true ∨ F i) (kf : Nat → Nat) (hk : ∀ i, i < n → kf i < N) (hL : ∀ i i' j j', E i j = true → E i' j' = true → kf i = kf i' → i = i') (hR : ∀ i i' j j', E i j = true → E i' j' = true → kf j = kf j' → j = j') (hE : ∀ i j, E i j = true → EK (kf i) (kf j) = true) (hEK : ∀ k k', EK k k' = true → ∃ i j, E i j = true ∧ kf i = k ∧ kf j = k') : MCk EK N (sumN (fun i => b2n (ml E m i)) n) := by
  refine ⟨⟨fun k => @dite _ (∃ i, i < n ∧ ml E m i = true ∧ kf i = k) (Classical.propDecidable _) (fun h => some (kf ((m (Classical.choose h)).getD 0))) (fun _ => none), fun k k' hu => ?_, fun k1 k2 k' hu1 hu2 => ?_, ?_⟩, fun k => cdec (∃ i, i < n ∧ cdec (ml E m i = true ∧ ¬F i) = true ∧ kf i = k), fun k => cdec (∃ i, i < n ∧ cdec (G i) = true ∧ kf i = k), fun k k' he => ?_, ?_⟩
  · try dsimp only at hu
    by_cases hx : ∃ i, i < n ∧ ml E m i = true ∧ kf i = k
    · rw [dif_pos hx] at hu
      have hs := Classical.choose_spec hx
      generalize Classical.choose hx = i at hu hs
      obtain ⟨j, j1, j2⟩ := ml_some hs.2.1
      rw [j1] at hu
      have hu : some (kf j) = some k' := hu
      cases hu
      have hj := (L.1 i j j2).2
      refine ⟨?_, hk j hj, ?_⟩
      · rw [← hs.2.2]
        exact hk i hs.1
      · rw [← hs.2.2]
        exact hE i j j2
    · rw [dif_neg hx] at hu
      cases hu
  · try dsimp only at hu1 hu2
    by_cases hx : ∃ i, i < n ∧ ml E m i = true ∧ kf i = k1
    · by_cases hy : ∃ i, i < n ∧ ml E m i = true ∧ kf i = k2
      · rw [dif_pos hx] at hu1
        rw [dif_pos hy] at hu2
        have hs := Classical.choose_spec hx
        have ht := Classical.choose_spec hy
        generalize Classical.choose hx = i at hu1 hs
        generalize Classical.choose hy = i' at hu2 ht
        obtain ⟨j, j1, j2⟩ := ml_some hs.2.1
        obtain ⟨j', j1', j2'⟩ := ml_some ht.2.1
        rw [j1] at hu1
        rw [j1'] at hu2
        have hu1 : some (kf j) = some k' := hu1
        have hu2 : some (kf j') = some k' := hu2
        cases hu1
        have e : kf j' = kf j := Option.some.inj hu2
        have ej := hR i' i j' j j2' j2 e
        subst ej
        have a1 := (hm i j' j1).1
        have a2 := (hm i' j' j1').1
        rw [a1] at a2
        cases a2
        rw [← hs.2.2, ← ht.2.2]
      · rw [dif_neg hy] at hu2
        cases hu2
    · rw [dif_neg hx] at hu1
      cases hu1
  · refine Eq.trans (sumN_eq (g := fun k => b2n (cdec (∃ i, i < n ∧ ml E m i = true ∧ kf i = k))) (fun k _ => ?_)) (sum_img kf (fun i hi _ => hk i hi) (fun i j hi hj hpi hpj he => ?_))
    · try dsimp only
      by_cases hx : ∃ i, i < n ∧ ml E m i = true ∧ kf i = k
      · rw [dif_pos hx, cdec_t.mpr hx]
        rfl
      · rw [dif_neg hx, cdec_f.mpr hx]
        rfl
    · obtain ⟨a, _, a2⟩ := ml_some hpi
      obtain ⟨c, _, c2⟩ := ml_some hpj
      exact hL i j a c a2 c2 he
  · obtain ⟨i, j, e1, e2, e3⟩ := hEK k k' he
    obtain ⟨l1, l2⟩ := L.1 i j e1
    by_cases hF : F i
    · exact .inr (cdec_t.mpr ⟨j, l2, cdec_t.mpr (hc.1 i j hF e1), e3⟩)
    · rcases ha i l1 with z | z
      · exact .inl (cdec_t.mpr ⟨i, l1, cdec_t.mpr ⟨z, hF⟩, e2⟩)
      · exact absurd z hF
  · rw [sum_img kf (fun i hi _ => hk i hi) (fun i j hi hj hpi hpj he => by
      obtain ⟨a, _, a2⟩ := ml_some (cdec_t.mp hpi).1
      obtain ⟨c, _, c2⟩ := ml_some (cdec_t.mp hpj).1
      exact hL i j a c a2 c2 he), sum_img kf (fun i hi _ => hk i hi) (fun i j hi hj hpi hpj he => by
      obtain ⟨a, _, _, a2⟩ := hc.2 i (cdec_t.mp hpi)
      obtain ⟨c, _, _, c2⟩ := hc.2 j (cdec_t.mp hpj)
      exact hR a c i j a2 c2 he)]
    have hG : sumN (fun i => b2n (cdec (G i))) n = sumN (fun i => b2n (cdec (ml E m i = true ∧ F i))) n := by
      refine Nat.le_antisymm (sum_inj (fun j => (m j).getD 0) (fun j hj hp => ?_) (fun j j' hj hj' hp hp' he => ?_)) (sum_inj (fun i => (m i).getD 0) (fun i hi hp => ?_) (fun i i' hi hi' hp hp' he => ?_))
      · obtain ⟨i, i1, i2, i3⟩ := hc.2 j (cdec_t.mp hp)
        try dsimp only
        rw [i1]
        have a := (hm j i i1).1
        exact ⟨(L.1 i j i3).1, cdec_t.mpr ⟨ml_of a i3, i2⟩⟩
      · obtain ⟨i, i1, i2, i3⟩ := hc.2 j (cdec_t.mp hp)
        obtain ⟨i', i1', i2', i3'⟩ := hc.2 j' (cdec_t.mp hp')
        try dsimp only at he
        rw [i1, i1'] at he
        have he : i = i' := he
        subst he
        have a := (hm j i i1).1
        have a' := (hm j' i i1').1
        rw [a] at a'
        cases a'
        rfl
      · obtain ⟨q1, q2⟩ := cdec_t.mp hp
        obtain ⟨j, j1, j2⟩ := ml_some q1
        try dsimp only
        rw [j1]
        exact ⟨(L.1 i j j2).2, cdec_t.mpr (hc.1 i j q2 j2)⟩
      · obtain ⟨q1, q2⟩ := cdec_t.mp hp
        obtain ⟨j, j1, j2⟩ := ml_some q1
        obtain ⟨q1', q2'⟩ := cdec_t.mp hp'
        obtain ⟨j', j1', j2'⟩ := ml_some q1'
        try dsimp only at he
        rw [j1, j1'] at he
        have he : j = j' := he
        subst he
        have a := (hm i j j1).1
        have a' := (hm i' j j1').1
        rw [a] at a'
        cases a'
        rfl
    rw [hG, ← sumN_add]
    refine sumN_eq (fun i _ => ?_)
    cases h1 : ml E m i with
    | false =>
      rw [cdec_f.mpr (fun z => by cases z.1), cdec_f.mpr (fun z => by cases z.1)]
      rfl
    | true =>
      by_cases hF : F i
      · rw [cdec_f.mpr (fun z => z.2 hF), cdec_t.mpr ⟨rfl, hF⟩]
        rfl
      · rw [cdec_t.mpr ⟨rfl, hF⟩, cdec_f.mpr (fun z => hF z.2)]
        rfl

