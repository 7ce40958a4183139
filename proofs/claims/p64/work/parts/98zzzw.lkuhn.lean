/-! THE LAW: its search for pairs, the pure part -/
abbrev TF : Type := Nat → Nat → Bool
def Uns (S : Nat → Bool) (n : Nat) : Nat := sumN (fun j => b2n (!S j)) n
/-- every mate is one -/
def KE (T : TF) (nL nR : Nat) (u : MF) : Prop := ∀ j l, u j = some l → j < nR ∧ l < nL ∧ T l j = true
def KJ (u : MF) (S : Nat → Bool) : Prop := ∀ j j' l, S j = false → S j' = false → u j = some l → u j' = some l → j = j'
def KL (u : MF) (S : Nat → Bool) (l : Nat) : Prop := ∃ j, S j = false ∧ u j = some l
def KC (T : TF) (nR : Nat) (u : MF) (F G : Nat → Prop) : Prop := (∀ l j, F l → j < nR → T l j = true → G j) ∧ ∀ j, G j → ∃ l, u j = some l ∧ F l
/-- i got a mate -/
def KT (T : TF) (nL nR : Nat) (u : MF) (S : Nat → Bool) (i : Nat) (v : MF) : Prop := KE T nL nR v ∧ (∀ j, S j = true → v j = u j) ∧ KJ v S ∧ (∀ l, KL v S l ↔ (l = i ∨ KL u S l)) ∧ ∀ F G, KC T nR u F G → ¬F i ∧ ∀ j, G j → v j = u j
/-- i got none: all that it reaches is seen -/
def KN (T : TF) (nR : Nat) (u : MF) (S : Nat → Bool) (c i : Nat) (S' : Nat → Bool) : Prop := (∀ j, S j = true → S' j = true) ∧ (∀ j, j < c → T i j = true → S' j = true) ∧ ∀ j, S' j = true → S j = false → j < nR ∧ ∃ l, u j = some l ∧ ∀ j', j' < nR → T l j' = true → S' j' = true
def se (S : Nat → Bool) (c : Nat) : Nat → Bool := fun j => S j || decide (j = c)
section KU
variable {T : TF} {nL nR : Nat} {u v w : MF} {S Sc : Nat → Bool} {i c : Nat}
theorem se_f {j : Nat} : se S c j = false ↔ S j = false ∧ j ≠ c := by
  unfold se
  rw [Bool.or_eq_false_iff, decide_eq_false_iff_not]
theorem se_t {j : Nat} : se S c j = true ↔ S j = true ∨ j = c := by
  unfold se
  rw [Bool.or_eq_true, decide_eq_true_eq]
theorem k_succ (hj : ∀ j j' l, u j = some l → u j' = some l → j = j') (hi : i < nL) (hc : c < nR) (hT : T i c = true) (hn : ¬KL u S i) (H : KN T nR u S c i Sc) (hs : Sc c = false) (w1 : KE T nL nR w) (w2 : ∀ j, se Sc c j = true → w j = u j) (w3 : KJ w (se Sc c)) (w4 : ∀ l, KL w (se Sc c) l ↔ (u c = some l ∨ KL u (se Sc c) l)) (w5 : ∀ F G, KC T nR u F G → ¬G c ∧ ∀ j, G j → w j = u j) : KT T nL nR u S i (ud w c (some i)) := by
  obtain ⟨H1, H2, H3⟩ := H
  have S_c : S c = false := by
    cases q : S c with
    | false => rfl
    | true => rw [H1 c q] at hs; cases hs
  have low : ∀ j, Sc j = false → S j = false := fun j q => by
    cases z : S j with
    | false => rfl
    | true => rw [H1 j z] at q; cases q
  -- where a mate comes from
  have src : ∀ j l, S j = false → j ≠ c → w j = some l → ∃ j0, S j0 = false ∧ u j0 = some l ∧ (Sc j = true → j0 = j) ∧ (Sc j = false → Sc j0 = false) := fun j l h1 h2 h3 => by
    cases q : Sc j with
    | true =>
      have e := w2 j (se_t.mpr (Or.inl q))
      exact ⟨j, h1, e.symm.trans h3, fun _ => rfl, fun z => by cases z⟩
    | false =>
      rcases (w4 l).mp ⟨j, se_f.mpr ⟨q, h2⟩, h3⟩ with z | ⟨j0, z1, z2⟩
      · exact ⟨c, S_c, z, (fun z => by cases z), fun _ => hs⟩
      · exact ⟨j0, low _ (se_f.mp z1).1, z2, (fun z => by cases z), fun _ => (se_f.mp z1).1⟩
  refine ⟨fun j l h => ?_, fun j h => ?_, fun j j' l h1 h2 h3 h4 => ?_, fun l => ⟨fun h => ?_, fun h => ?_⟩, fun F G hK => ?_⟩
  · by_cases q : j = c
    · subst q
      rw [ud_e] at h
      cases h
      exact ⟨hc, hi, hT⟩
    · rw [ud_n q] at h
      exact w1 j l h
  · have q : j ≠ c := fun z => by
      subst z
      rw [S_c] at h
      cases h
    rw [ud_n q]
    exact w2 j (se_t.mpr (Or.inl (H1 j h)))
  · by_cases q : j = c
    · by_cases q' : j' = c
      · rw [q, q']
      · subst q
        rw [ud_e] at h3
        cases h3
        rw [ud_n q'] at h4
        obtain ⟨j0, z1, z2, -⟩ := src j' i h2 q' h4
        exact absurd ⟨j0, z1, z2⟩ hn
    · by_cases q' : j' = c
      · subst q'
        rw [ud_e] at h4
        cases h4
        rw [ud_n q] at h3
        obtain ⟨j0, z1, z2, -⟩ := src j i h1 q h3
        exact absurd ⟨j0, z1, z2⟩ hn
      · rw [ud_n q] at h3
        rw [ud_n q'] at h4
        obtain ⟨j0, z1, z2, z3, z4⟩ := src j l h1 q h3
        obtain ⟨j1, y1, y2, y3, y4⟩ := src j' l h2 q' h4
        have e := hj j0 j1 l z2 y2
        cases a : Sc j with
        | true =>
          cases a' : Sc j' with
          | true => rw [← z3 a, ← y3 a', e]
          | false =>
            have b := y4 a'
            rw [← e, z3 a, a] at b
            cases b
        | false =>
          cases a' : Sc j' with
          | true =>
            have b := z4 a
            rw [e, y3 a', a'] at b
            cases b
          | false => exact w3 j j' l (se_f.mpr ⟨a, q⟩) (se_f.mpr ⟨a', q'⟩) h3 h4
  · obtain ⟨j, h1, h2⟩ := h
    by_cases q : j = c
    · subst q
      rw [ud_e] at h2
      cases h2
      exact Or.inl rfl
    · rw [ud_n q] at h2
      obtain ⟨j0, z1, z2, -⟩ := src j l h1 q h2
      exact Or.inr ⟨j0, z1, z2⟩
  · rcases h with rfl | ⟨j, h1, h2⟩
    · exact ⟨c, S_c, ud_e _ _ _⟩
    · have new : ∀ l, KL w (se Sc c) l → KL (ud w c (some i)) S l := fun l z => by
        obtain ⟨j1, z1, z2⟩ := z
        obtain ⟨z3, z4⟩ := se_f.mp z1
        exact ⟨j1, low _ z3, by rw [ud_n z4]; exact z2⟩
      by_cases q : j = c
      · subst q
        exact new l ((w4 l).mpr (Or.inl h2))
      · cases a : Sc j with
        | true => exact ⟨j, h1, by rw [ud_n q, w2 j (se_t.mpr (Or.inl a))]; exact h2⟩
        | false => exact new l ((w4 l).mpr (Or.inr ⟨j, se_f.mpr ⟨a, q⟩, h2⟩))
  · obtain ⟨x1, x2⟩ := w5 F G hK
    refine ⟨fun z => x1 (hK.1 i c z hc hT), fun j z => ?_⟩
    have q : j ≠ c := fun e => x1 (e ▸ z)
    rw [ud_n q]
    exact x2 j z
theorem k_free (hE : KE T nL nR u) (hj : ∀ j j' l, u j = some l → u j' = some l → j = j') (hi : i < nL) (hc : c < nR) (hT : T i c = true) (hn : ¬KL u S i) (H : KN T nR u S c i Sc) (hs : Sc c = false) (h0 : u c = none) : KT T nL nR u S i (ud u c (some i)) :=
  k_succ hj hi hc hT hn H hs hE (fun _ _ => rfl) (fun j j' l _ _ a b => hj j j' l a b) (fun l => ⟨fun h => Or.inr h, fun h => by
    rcases h with h | h
    · rw [h0] at h
      cases h
    · exact h⟩) (fun F G hK => ⟨(fun z => by
    obtain ⟨l, z1, -⟩ := hK.2 c z
    rw [h0] at z1
    cases z1), fun _ _ => rfl⟩)
theorem k_moved (hj : ∀ j j' l, u j = some l → u j' = some l → j = j') (hi : i < nL) (hc : c < nR) (hT : T i c = true) (hn : ¬KL u S i) (H : KN T nR u S c i Sc) (hs : Sc c = false) {l : Nat} (h0 : u c = some l) (V : KT T nL nR u (se Sc c) l v) : KT T nL nR u S i (ud v c (some i)) := by
  obtain ⟨V1, V2, V3, V4, V5⟩ := V
  refine k_succ hj hi hc hT hn H hs V1 V2 V3 (fun l' => ?_) (fun F G hK => ?_)
  · rw [V4 l']
    constructor
    · rintro (rfl | z)
      · exact Or.inl h0
      · exact Or.inr z
    · rintro (z | z)
      · rw [h0] at z
        cases z
        exact Or.inl rfl
      · exact Or.inr z
  · obtain ⟨x1, x2⟩ := V5 F G hK
    refine ⟨fun z => ?_, x2⟩
    obtain ⟨l', z1, z2⟩ := hK.2 c z
    rw [h0] at z1
    cases z1
    exact x1 z2
theorem k_skip (H : KN T nR u S c i Sc) (h : T i c = false ∨ Sc c = true) : KN T nR u S (c + 1) i Sc := by
  refine ⟨H.1, fun j hj hT => ?_, H.2.2⟩
  by_cases q : j = c
  · subst q
    rcases h with h | h
    · rw [h] at hT
      cases hT
    · exact h
  · exact H.2.1 j (by omega) hT
theorem k_lost (hc : c < nR) (H : KN T nR u S c i Sc) {l : Nat} (h0 : u c = some l) {S2 : Nat → Bool} (V : KN T nR u (se Sc c) nR l S2) : KN T nR u S (c + 1) i S2 := by
  obtain ⟨H1, H2, H3⟩ := H
  obtain ⟨V1, V2, V3⟩ := V
  have up : ∀ j, Sc j = true → S2 j = true := fun j h => V1 j (se_t.mpr (Or.inl h))
  refine ⟨fun j h => up j (H1 j h), fun j hj hT => ?_, fun j h1 h2 => ?_⟩
  · by_cases q : j = c
    · exact V1 j (se_t.mpr (Or.inr q))
    · exact up j (H2 j (by omega) hT)
  · cases a : se Sc c j with
    | false => exact V3 j h1 a
    | true =>
      rcases se_t.mp a with z | z
      · obtain ⟨y1, l', y2, y3⟩ := H3 j z h2
        exact ⟨y1, l', y2, fun j' a1 a2 => up j' (y3 j' a1 a2)⟩
      · subst z
        exact ⟨hc, l, h0, V2⟩
theorem k_pre (hj : ∀ j j' l, u j = some l → u j' = some l → j = j') {l : Nat} (h0 : u c = some l) : ¬KL u (se Sc c) l := by
  rintro ⟨j, z1, z2⟩
  exact (se_f.mp z1).2 (hj j c l z2 h0)
theorem k_start (T : TF) (nR : Nat) (u : MF) (S : Nat → Bool) (i : Nat) : KN T nR u S 0 i S := ⟨fun _ h => h, fun j hj => absurd hj (Nat.not_lt_zero j), fun j h1 h2 => by rw [h1] at h2; cases h2⟩
theorem uns_se (hc : c < nR) (hs : Sc c = false) : Uns (se Sc c) nR + 1 = Uns Sc nR := by
  have e := sumN_bump (f := fun j => b2n (!se Sc c j)) (g := fun j => b2n (!Sc j)) hc (fun j _ q => by
    show b2n (!(Sc j || decide (j = c))) = b2n (!Sc j)
    rw [decide_eq_false q, Bool.or_false])
  have e1 : b2n (!Sc c) = 1 := by rw [hs]; rfl
  have e2 : b2n (!se Sc c c) = 0 := by
    unfold se
    rw [decide_eq_true rfl, Bool.or_true]
    rfl
  rw [e1, e2] at e
  exact e
theorem uns_le (h : ∀ j, S j = true → Sc j = true) : Uns Sc nR ≤ Uns S nR := sumN_le (fun j _ => by
  cases a : S j with
  | true => rw [h j a]; exact Nat.le_refl _
  | false => exact Nat.le_trans (b2n_le _) (Nat.le_refl _))
end KU
