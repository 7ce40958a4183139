/-! THE EMPTY BOOK, on both sides -/
def bk0 : Bk := (fun _ _ => 0, fun _ _ => 0, 0, fun _ => (0, 0, 0), fun _ => 5, fun _ => 0, 0)
theorem tot0 : tot (fun _ _ => 0) = 0 := sumN_0 (fun _ _ => rfl)
theorem RK0 {f : Nat → Nat → Int32} {B : Nat} (z : ∀ a k, B ≤ a → a < B + 17 → ¬(a = B + 15 ∧ k < 3) → f a k = nI 0) (w : ∀ k, k < 3 → f (B + 15) k = nI 5) : RK f B bk0 := by
  have hn : ∀ a k b, B ≤ a → a < B + 15 → 0 < b → nn f a k b := fun a k b h1 h2 h3 => nn.mk (z a k h1 (by omega) (by omega)) h3
  have h3 : tn f (B + 1) = 0 := rd_of (z _ _ (by omega) (by omega) (by omega)) (by decide)
  have h4 : tm f (B + 1) = 0 := rd_of (z _ _ (by omega) (by omega) (by omega)) (by decide)
  refine ⟨⟨⟨hn _ _ _ (by omega) (by omega) (by decide), hn _ _ _ (by omega) (by omega) (by decide), fun r hr => hn _ _ _ (by omega) (by omega) (by decide), fun s hs r hr => hn _ _ _ (by omega) (by omega) (by decide), fun s hs r hr => hn _ _ _ (by omega) (by omega) (by decide)⟩, fun r r' h1 h2 => absurd h2 (by omega), fun r hr => absurd hr (by omega), fun s r hs hr => absurd hr (by omega), fun s k hs hk h => rfl, h4.trans tot0.symm⟩, RB.nil (z _ _ (by omega) (by omega) (by omega)), fun s hs => ⟨w s hs, by show 5 ≤ 9; decide⟩, fun i hi => z _ _ (by omega) (by omega) (by omega), z _ _ (by omega) (by omega) (by omega)⟩
theorem RN0 {g : Nat → Int32} (z : ∀ k, k < 169 → ¬(10 ≤ k ∧ k < 13) → g k = nI 0) (w : ∀ s, s < 3 → g (10 + s) = nI 5) : RN g bk0 := by
  have et : tot (kA bk0) = 0 := tot0
  refine ⟨⟨?_, ?_, fun j hj => ?_, fun j j' h1 h2 => ?_, fun s k hs hk h0 => absurd h0 (Nat.lt_irrefl 0)⟩, ⟨by show 0 ≤ 12; decide, z 2 (by decide) (by omega), fun i hi => absurd hi (Nat.not_lt_zero i)⟩, fun s hs => ⟨w s hs, by show 5 ≤ 9; decide⟩, fun i hi => z _ (by omega) (by omega), z 0 (by decide) (by omega)⟩
  · rw [et]
    exact z 1 (by decide) (by omega)
  · rw [et]
    decide
  · rw [et] at hj
    exact absurd hj (Nat.not_lt_zero j)
  · rw [et] at h2
    exact absurd h2 (Nat.not_lt_zero j')
theorem Cns0 : Cns bk0 := by
  have et : tot (kA bk0) = 0 := tot0
  have e3 : kU bk0 3 = 0 := rfl
  have e2 : kU bk0 2 = 0 := rfl
  unfold Cns
  rw [et, e3, e2]
theorem Bd0 : Bd bk0 0 := ⟨fun _ _ => Nat.le_refl 0, Nat.le_refl 0⟩
