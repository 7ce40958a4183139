/-! THE OBJECTS MADE: arrays one after another -/
/-- arrays of kind and length made one after another from cell B, each put in a place of t -/
def arrs (t : Nat) : Nat → List (Nat × Nat × Nat) → Hp → Hp
  | _, [], h => h
  | B, p :: r, h => arrs t (B + 1) r (sR (hnew h p.2.1 p.2.2) t p.1 B)
def lsum : List (Nat × Nat × Nat) → Nat
  | [] => 0
  | p :: r => p.2.2 + lsum r
def nodj : List (Nat × Nat × Nat) → Bool
  | [] => true
  | p :: r => r.all (fun q => !(Nat.beq q.1 p.1)) && nodj r
/-- what the arrays made are -/
def ArS (h h' : Hp) (t B : Nat) (r : List (Nat × Nat × Nat)) : Prop := HN h' = B + r.length ∧ HC h' = HC h + r.length ∧ HS h' = HS h + lsum r ∧ h'.2.1 t = h.2.1 t ∧ (∀ k, HI h' t k = HI h t k) ∧ (∀ j, (∀ p, p ∈ r → p.1 ≠ j) → HR h' t j = HR h t j) ∧ (∀ lo hi, hi ≤ B → (t < lo ∨ hi ≤ t) → Sm h h' lo hi) ∧ (∀ i p, r[i]? = some p → h'.2.1 (B + i) = (p.2.1, p.2.2) ∧ ∀ x, HI h' (B + i) x = nI 0) ∧ (nodj r = true → ∀ i p, r[i]? = some p → HR h' t p.1 = B + i)
theorem arrs_ok (t : Nat) : ∀ (r : List (Nat × Nat × Nat)) (h : Hp) (B : Nat), HN h = B → t < B → ArS h (arrs t B r h) t B r := by
  intro r
  induction r with
  | nil => exact fun h B hN ht => ⟨hN, rfl, rfl, rfl, fun _ => rfl, fun _ _ => rfl, fun _ _ _ _ => Sm.refl _ _ _, fun i p e => by simp at e, fun _ i p e => by simp at e⟩
  | cons q r ih =>
    intro h B hN ht
    have N : HN (sR (hnew h q.2.1 q.2.2) t q.1 B) = B + 1 := by rw [HN_sR, HN_hnew, hN]
    obtain ⟨a1, a2, a3, a4, a5, a6, a7, a8, a9⟩ := ih (sR (hnew h q.2.1 q.2.2) t q.1 B) (B + 1) N (by omega)
    have SB : Sm (hnew h q.2.1 q.2.2) (sR (hnew h q.2.1 q.2.2) t q.1 B) B (B + 1) := Sm.sR _ t q.1 B (by omega)
    have S2 := a7 B (B + 1) (by omega) (by omega)
    have S0 : Sm h (hnew h q.2.1 q.2.2) t (t + 1) := Sm.new h _ _ (by omega)
    refine ⟨?_, ?_, ?_, ?_, fun k => ?_, fun j hj => ?_, fun lo hi h1 h2 => ?_, fun i p e => ?_, fun hd i p e => ?_⟩
    · show HN (arrs t (B + 1) r _) = _
      rw [a1, List.length_cons]
      omega
    · show HC (arrs t (B + 1) r _) = _
      rw [a2, List.length_cons]
      show HC h + 1 + r.length = _
      omega
    · show HS (arrs t (B + 1) r _) = _
      rw [a3]
      show HS h + q.2.2 + lsum r = HS h + (q.2.2 + lsum r)
      omega
    · exact a4.trans (S0 t (by omega) (by omega)).1
    · exact (a5 k).trans (S0.ii (by omega) (by omega) k)
    · exact (a6 j (fun p hp => hj p (List.mem_cons_of_mem _ hp))).trans ((sR_ot _ t q.1 B (fun e => hj q List.mem_cons_self e.symm)).trans (S0.hr (by omega) (by omega) j))
    · exact (Sm.new h q.2.1 q.2.2 (by omega)).trans ((Sm.sR _ t q.1 B h2).trans (a7 lo hi (by omega) h2))
    · cases i with
      | zero =>
        have e' : q = p := Option.some.inj e
        subst e'
        refine ⟨(S2 B (by omega) (by omega)).1.trans ?_, fun x => (S2.ii (by omega) (by omega) x).trans ?_⟩
        · show (hnew h q.2.1 q.2.2).2.1 B = (q.2.1, q.2.2)
          rw [← hN]
          exact hnew_e h q.2.1 q.2.2
        · exact new_i h q.2.1 q.2.2 hN x
      | succ i =>
        have e' : r[i]? = some p := e
        have := a8 i p e'
        rw [show B + 1 + i = B + (i + 1) by omega] at this
        exact this
    · have hd' := Bool.and_eq_true_iff.mp hd
      cases i with
      | zero =>
        have e' : q = p := Option.some.inj e
        subst e'
        refine (a6 q.1 (fun p hp x => ?_)).trans (sR_at _ t q.1 B)
        have := List.all_eq_true.mp hd'.1 p hp
        rw [x, Nat.beq_refl] at this
        exact absurd this (by decide)
      | succ i =>
        have e' : r[i]? = some p := e
        have := a9 hd'.2 i p e'
        exact (show HR (arrs t B (q :: r) h) t p.1 = B + 1 + i from this).trans (by omega)
section AS
variable {h h' : Hp} {t B : Nat} {r : List (Nat × Nat × Nat)}
theorem ArS.k (A : ArS h h' t B r) {i : Nat} {p : Nat × Nat × Nat} (e : r[i]? = some p) : HK h' (B + i) = p.2.1 ∧ HL h' (B + i) = p.2.2 := ⟨congrArg Prod.fst (A.2.2.2.2.2.2.2.1 i p e).1, congrArg Prod.snd (A.2.2.2.2.2.2.2.1 i p e).1⟩
theorem ArS.z (A : ArS h h' t B r) {i : Nat} {p : Nat × Nat × Nat} (e : r[i]? = some p) (x : Nat) : HI h' (B + i) x = nI 0 := (A.2.2.2.2.2.2.2.1 i p e).2 x
theorem ArS.rf (A : ArS h h' t B r) (d : nodj r = true) {i : Nat} {p : Nat × Nat × Nat} (e : r[i]? = some p) : HR h' t p.1 = B + i := A.2.2.2.2.2.2.2.2 d i p e
theorem ArS.m (A : ArS h h' t B r) {lo hi : Nat} (h1 : hi ≤ B) (h2 : t < lo ∨ hi ≤ t) : Sm h h' lo hi := A.2.2.2.2.2.2.1 lo hi h1 h2
theorem ArS.o (A : ArS h h' t B r) {j : Nat} (hj : r.all (fun q => !(Nat.beq q.1 j)) = true) : HR h' t j = HR h t j := A.2.2.2.2.2.1 j (fun p hp x => by
  have := List.all_eq_true.mp hj p hp
  rw [x, Nat.beq_refl] at this
  exact absurd this (by decide))
end AS
