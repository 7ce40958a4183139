/-! THE TABLE BY KEYS: A s k the amount (0: none), D s k the day -/
abbrev AF : Type := Nat → Nat → Nat
def hoA (A : AF) (k : Nat) : Nat := hol3 (A 0 k) (A 1 k) (A 2 k)
def stA (A : AF) (k : Nat) : Nat := st3 (A 0 k) (A 1 k) (A 2 k)
def acA (A : AF) (k : Nat) : Nat := ac3 (A 0 k) (A 1 k) (A 2 k)
def numA (A : AF) (s : Nat) : Nat := sumN (fun k => b2n (decide (0 < A s k))) 1000
def suA (A : AF) (s : Nat) : Nat := sumN (fun k => A s k) 1000
def tot (A : AF) : Nat := sumN (fun k => hoA A k) 1000
def cwA (A : AF) (c : Nat) : Nat := sumN (fun k => b2n (decide (0 < hoA A k ∧ stA A k = c))) 1000
def dkA (A : AF) (p : Int32) : Option Nat := fst? (fun k => decide (stA A k = 100 ∧ nI (sumN (fun k => b2n (decide (stA A k = 100))) k) = p)) 1000
def kaA (A : AF) (s : Nat) (p : Int32) : Option Nat := fst? (fun k => decide (0 < A s k ∧ nI (sumN (fun k => b2n (decide (0 < A s k))) k) = p)) 1000
def olA (A D : AF) (s : Nat) : Nat → Option Nat
  | 0 => none
  | n + 1 => match olA A D s n with
    | none => if 0 < A s n then some n else none
    | some b => if 0 < A s n ∧ D s n < D s b then some n else some b
theorem olA_cut {A D : AF} {s m n : Nat} (h : m ≤ n) (h0 : ∀ k, m ≤ k → k < n → A s k = 0) : olA A D s n = olA A D s m := by
  induction h with
  | refl => rfl
  | step h ih =>
    simp only [olA]
    rw [ih (fun k h1 h2 => h0 k h1 (by omega)), h0 _ h (by omega)]
    cases olA A D s m <;> simp
theorem tot_eq (A : AF) : tot A = numA A 0 + numA A 1 + numA A 2 := by
  unfold tot hoA hol3 numA
  rw [sumN_add, sumN_add]
def RT (f : Nat → Nat → Int32) (t : Nat) (A D : AF) : Prop := TbN f t ∧ (∀ r r', r < r' → r' < tn f t → tk f t r < tk f t r') ∧ (∀ r, r < tn f t → 0 < hol3 (ta f t 0 r) (ta f t 1 r) (ta f t 2 r)) ∧ (∀ s r, s < 3 → r < tn f t → A s (tk f t r) = ta f t s r ∧ (0 < ta f t s r → D s (tk f t r) = td f t s r)) ∧ (∀ s k, s < 3 → k < 1000 → (∀ r, r < tn f t → tk f t r ≠ k) → A s k = 0) ∧ tm f t = tot A
section RT
variable {f : Nat → Nat → Int32} {t : Nat} {A D : AF}
theorem RT.N (R : RT f t A D) : TbN f t := R.1
theorem RT.n30 (R : RT f t A D) : tn f t < 31 := R.1.n30
theorem RT.lt (R : RT f t A D) {r r' : Nat} (h1 : r < r') (h2 : r' < tn f t) : tk f t r < tk f t r' := R.2.1 r r' h1 h2
theorem RT.ne (R : RT f t A D) {r : Nat} (hr : r < tn f t) : 0 < hol3 (ta f t 0 r) (ta f t 1 r) (ta f t 2 r) := R.2.2.1 r hr
theorem RT.a (R : RT f t A D) {s r : Nat} (hs : s < 3) (hr : r < tn f t) : A s (tk f t r) = ta f t s r := (R.2.2.2.1 s r hs hr).1
theorem RT.d (R : RT f t A D) {s r : Nat} (hs : s < 3) (hr : r < tn f t) (h : 0 < ta f t s r) : D s (tk f t r) = td f t s r := (R.2.2.2.1 s r hs hr).2 h
theorem RT.no (R : RT f t A D) {s k : Nat} (hs : s < 3) (hk : k < 1000) (h : ∀ r, r < tn f t → tk f t r ≠ k) : A s k = 0 := R.2.2.2.2.1 s k hs hk h
theorem RT.m (R : RT f t A D) : tm f t = tot A := R.2.2.2.2.2
theorem RT.k9 (R : RT f t A D) {r : Nat} (hr : r < tn f t) : tk f t r < 1000 := R.1.k9 (by have := R.n30; omega)
theorem RT.inj (R : RT f t A D) {r r' : Nat} (h1 : r < tn f t) (h2 : r' < tn f t) (h : tk f t r = tk f t r') : r = r' := by
  rcases Nat.lt_trichotomy r r' with hl | he | hl
  · have := R.lt hl h2
    omega
  · exact he
  · have := R.lt hl h1
    omega
theorem RT.st (R : RT f t A D) {r : Nat} (hr : r < tn f t) : stA A (tk f t r) = sr3 f t r := by
  unfold stA sr3
  rw [R.a (by decide) hr, R.a (by decide) hr, R.a (by decide) hr]
theorem RT.ho (R : RT f t A D) {r : Nat} (hr : r < tn f t) : hoA A (tk f t r) = hol3 (ta f t 0 r) (ta f t 1 r) (ta f t 2 r) := by
  unfold hoA
  rw [R.a (by decide) hr, R.a (by decide) hr, R.a (by decide) hr]
theorem RT.ac (R : RT f t A D) {r : Nat} (hr : r < tn f t) : acA A (tk f t r) = ac3 (ta f t 0 r) (ta f t 1 r) (ta f t 2 r) := by
  unfold acA
  rw [R.a (by decide) hr, R.a (by decide) hr, R.a (by decide) hr]
/-- the row of a key -/
theorem RT.rw_some (R : RT f t A D) {r : Nat} (hr : r < tn f t) : rw? f t (tk f t r) = some r := by
  unfold rw?
  rw [fst_some]
  refine ⟨hr, decide_eq_true rfl, fun j hj => decide_eq_false (fun h => ?_)⟩
  have := R.inj (by omega) hr h
  omega
theorem RT.rw_none (R : RT f t A D) {k : Nat} (h : ∀ r, r < tn f t → tk f t r ≠ k) : rw? f t k = none := by
  unfold rw?
  rw [fst_none]
  exact fun j hj => decide_eq_false (h j hj)
theorem RT.cases (R : RT f t A D) {k : Nat} (hk : k < 1000) : (∃ r, r < tn f t ∧ tk f t r = k ∧ rw? f t k = some r) ∨ ((∀ r, r < tn f t → tk f t r ≠ k) ∧ rw? f t k = none ∧ A 0 k = 0 ∧ A 1 k = 0 ∧ A 2 k = 0) := by
  by_cases h : ∃ r, r < tn f t ∧ tk f t r = k
  · obtain ⟨r, h1, h2⟩ := h
    exact .inl ⟨r, h1, h2, h2 ▸ R.rw_some h1⟩
  · have h0 : ∀ r, r < tn f t → tk f t r ≠ k := fun r h1 h2 => h ⟨r, h1, h2⟩
    exact .inr ⟨h0, R.rw_none h0, R.no (by decide) hk h0, R.no (by decide) hk h0, R.no (by decide) hk h0⟩
/-- sums over rows are sums over keys -/
theorem RT.sum (R : RT f t A D) {F : Nat → Nat} {G : Nat → Nat} (hG : ∀ r, r < tn f t → G r = F (tk f t r)) (h0 : ∀ k, k < 1000 → A 0 k = 0 → A 1 k = 0 → A 2 k = 0 → F k = 0) : sumN G (tn f t) = sumN F 1000 := by
  rw [sumN_eq hG]
  exact sum_rows (fun r r' => R.lt) (fun r => R.k9) (fun k hk h => h0 k hk (R.no (by decide) hk h) (R.no (by decide) hk h) (R.no (by decide) hk h))
/-- .. also ahead of a row -/
theorem RT.sum_at (R : RT f t A D) {F : Nat → Nat} {G : Nat → Nat} {n : Nat} (hn : n < tn f t) (hG : ∀ r, r < n → G r = F (tk f t r)) (h0 : ∀ k, k < 1000 → A 0 k = 0 → A 1 k = 0 → A 2 k = 0 → F k = 0) : sumN G n = sumN F (tk f t n) := by
  rw [sumN_eq hG]
  refine sum_rows (fun r r' h1 h2 => R.lt h1 (by omega)) (fun r h => R.lt h hn) (fun k hk h => ?_)
  have hk9 := R.k9 hn
  have hno : ∀ r, r < tn f t → tk f t r ≠ k := fun r hr => by
    rcases Nat.lt_trichotomy r n with hl | he | hl
    · exact h r hl
    · subst he
      omega
    · have := R.lt hl hr
      omega
  exact h0 k (by omega) (R.no (by decide) (by omega) hno) (R.no (by decide) (by omega) hno) (R.no (by decide) (by omega) hno)
theorem RT.cn (R : RT f t A D) {s : Nat} (hs : s < 3) : sumN (fun r => b2n (decide (0 < ta f t s r))) (tn f t) = numA A s := by
  refine R.sum (fun r hr => by rw [R.a hs hr]) (fun k hk h0 h1 h2 => ?_)
  have : s = 0 ∨ s = 1 ∨ s = 2 := by omega
  rcases this with rfl | rfl | rfl <;> simp [*, b2n]
theorem RT.su (R : RT f t A D) {s : Nat} (hs : s < 3) : sumN (fun r => ta f t s r) (tn f t) = suA A s := by
  refine R.sum (fun r hr => by rw [R.a hs hr]) (fun k hk h0 h1 h2 => ?_)
  have : s = 0 ∨ s = 1 ∨ s = 2 := by omega
  rcases this with rfl | rfl | rfl <;> assumption
theorem RT.cw (R : RT f t A D) {c : Nat} : sumN (fun r => b2n (decide (sr3 f t r = c))) (tn f t) = cwA A c := by
  refine R.sum (fun r hr => ?_) (fun k hk h0 h1 h2 => ?_)
  · have := R.ne hr
    rw [← R.ho hr] at this
    simp only [R.st hr, this, true_and]
  · simp [hoA, hol3, h0, h1, h2, b2n]
theorem RT.at (R : RT f t A D) : sumN (fun r => ac3 (ta f t 0 r) (ta f t 1 r) (ta f t 2 r)) (tn f t) = sumN (fun k => acA A k) 1000 :=
  R.sum (fun r hr => by rw [R.ac hr]) (fun k hk h0 h1 h2 => by simp [acA, ac3, mn0, h0, h1, h2])
/-- a first row is that of a first key -/
theorem RT.first (R : RT f t A D) {p q : Nat → Bool} (hp : ∀ r, r < tn f t → p r = q (tk f t r)) (h0 : ∀ k, k < 1000 → A 0 k = 0 → A 1 k = 0 → A 2 k = 0 → q k = false) : (fst? p (tn f t)).map (fun r => tk f t r) = fst? q 1000 := by
  cases h : fst? p (tn f t) with
  | some r =>
    obtain ⟨h1, h2, h3⟩ := fst_some.mp h
    refine (fst_some.mpr ⟨R.k9 h1, (hp r h1).symm.trans h2, fun k hk => ?_⟩).symm
    have hk9 := R.k9 h1
    rcases R.cases (k := k) (by omega) with ⟨r', h4, h5, _⟩ | ⟨_, _, h4, h5, h6⟩
    · have : r' < r := by
        rcases Nat.lt_trichotomy r r' with hl | he | hl
        · have := R.lt hl h4
          omega
        · subst he
          omega
        · exact hl
      rw [← h5, ← hp r' h4]
      exact h3 r' this
    · exact h0 k (by omega) h4 h5 h6
  | none =>
    have h1 := fst_none.mp h
    refine (fst_none.mpr (fun k hk => ?_)).symm
    rcases R.cases hk with ⟨r', h4, h5, _⟩ | ⟨_, _, h4, h5, h6⟩
    · rw [← h5, ← hp r' h4]
      exact h1 r' h4
    · exact h0 k hk h4 h5 h6
theorem RT.dk (R : RT f t A D) (p : Int32) : (fst? (fun r => decide (sr3 f t r = 100 ∧ nI (sumN (fun r => b2n (decide (sr3 f t r = 100))) r) = p)) (tn f t)).map (fun r => tk f t r) = dkA A p := by
  have h3 : ∀ k, k < 1000 → A 0 k = 0 → A 1 k = 0 → A 2 k = 0 → stA A k ≠ 100 := fun k _ h0 h1 h2 => by simp [stA, st3, d3, hol3, b2n, h0, h1, h2]
  refine R.first (fun r hr => ?_) (fun k hk h0 h1 h2 => ?_)
  · rw [R.sum_at hr (F := fun k => b2n (decide (stA A k = 100))) (fun r' hr' => by rw [R.st (by omega)]) (fun k hk h0 h1 h2 => by simp [h3 k hk h0 h1 h2, b2n]), R.st hr]
  · simp [h3 k hk h0 h1 h2]
theorem RT.ka (R : RT f t A D) {s : Nat} (hs : s < 3) (p : Int32) : (fst? (fun r => decide (0 < ta f t s r ∧ nI (sumN (fun r => b2n (decide (0 < ta f t s r))) r) = p)) (tn f t)).map (fun r => tk f t r) = kaA A s p := by
  have h3 : ∀ k, k < 1000 → A 0 k = 0 → A 1 k = 0 → A 2 k = 0 → A s k = 0 := fun k _ h0 h1 h2 => by
    have : s = 0 ∨ s = 1 ∨ s = 2 := by omega
    rcases this with rfl | rfl | rfl <;> assumption
  refine R.first (fun r hr => ?_) (fun k hk h0 h1 h2 => ?_)
  · rw [R.sum_at hr (F := fun k => b2n (decide (0 < A s k))) (fun r' hr' => by rw [R.a hs (by omega)]) (fun k hk h0 h1 h2 => by simp [h3 k hk h0 h1 h2, b2n]), R.a hs hr]
  · simp [h3 k hk h0 h1 h2]
theorem RT.ol (R : RT f t A D) {s : Nat} (hs : s < 3) : (old? f t s (tn f t)).map (fun r => tk f t r) = olA A D s 1000 := by
  have gap : ∀ k, k < 1000 → (∀ r, r < tn f t → tk f t r ≠ k) → A s k = 0 := fun k hk h => R.no hs hk h
  have key : ∀ n, n ≤ tn f t → (old? f t s n).map (fun r => tk f t r) = olA A D s (if n < tn f t then tk f t n else 1000) := by
    intro n
    induction n with
    | zero =>
      intro _
      rw [olA_cut (m := 0) (Nat.zero_le _)]
      · rfl
      · intro k _ hk
        refine gap k ?_ (fun r hr he => ?_)
        · split at hk
          · have := R.k9 (r := 0) (by assumption)
            omega
          · exact hk
        · split at hk
          · rcases Nat.eq_zero_or_pos r with rfl | hl
            · omega
            · have := R.lt hl hr
              omega
          · omega
    | succ n ih =>
      intro hn
      have ih := ih (by omega)
      rw [if_pos (by omega)] at ih
      have hk9 := R.k9 (r := n) (by omega)
      rw [olA_cut (m := tk f t n + 1)]
      · simp only [old?, olA]
        rw [← ih]
        have hA := R.a hs (r := n) (by omega)
        cases ho : old? f t s n with
        | none =>
          simp only [Option.map_none, hA]
          split <;> rfl
        | some b =>
          have hb := old_lt ho
          simp only [Option.map_some, hA]
          by_cases hz : 0 < ta f t s n
          · have hb2 : 0 < ta f t s b := by
              clear ih
              have : ∀ m b, old? f t s m = some b → 0 < ta f t s b := by
                intro m
                induction m with
                | zero => intro b hb; cases hb
                | succ m im =>
                  intro b hb
                  simp only [old?] at hb
                  cases hm : old? f t s m with
                  | none =>
                    rw [hm] at hb
                    dsimp only at hb
                    split at hb
                    · cases hb
                      assumption
                    · cases hb
                  | some c =>
                    rw [hm] at hb
                    dsimp only at hb
                    split at hb
                    · cases hb
                      exact (And.left (by assumption))
                    · cases hb
                      exact im _ hm
              exact this n b ho
            rw [R.d hs (by omega) hz, R.d hs (by omega) hb2]
            split <;> rfl
          · simp only [hz, false_and, if_false, Option.map_some]
      · split
        · exact R.lt (by omega) (by assumption)
        · omega
      · intro k h1 h2
        refine gap k ?_ (fun r hr he => ?_)
        · split at h2
          · have := R.k9 (r := n + 1) (by assumption)
            omega
          · exact h2
        · rcases Nat.lt_trichotomy r n with hl | rfl | hl
          · have := R.lt hl (by omega)
            omega
          · omega
          · split at h2
            · rcases Nat.lt_or_ge (n + 1) r with h3 | h3
              · have := R.lt h3 hr
                omega
              · have : r = n + 1 := by omega
                subst this
                omega
            · omega
  have := key (tn f t) (Nat.le_refl _)
  rw [if_neg (Nat.lt_irrefl _)] at this
  exact this
end RT
