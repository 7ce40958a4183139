/-! THE EMPTY BOOK, on both sides -/
def bk0 : Bk := (fun _ _ => 0, fun _ _ => 0, 0, fun _ => (0, 0, 0), fun _ => 5, fun _ => 0, 0)
theorem tot0 : tot (fun _ _ => 0) = 0 := sumN_0 (fun _ _ => rfl)
theorem RK0 {f : Nat → Nat → Int32} {B : Nat} (z : ∀ a k, B ≤ a → a < B + 17 → ¬(a = B + 15 ∧ k < 3) → f a k = nI 0) (w : ∀ k, k < 3 → f (B + 15) k = nI 5) : RK f B bk0 := by
  have hn : ∀ a k b, B ≤ a → a < B + 15 → 0 < b → nn f a k b := fun a k b h1 h2 h3 => nn.mk (z a k h1 (by omega) (by omega)) h3
  have h3 : tn f (B + 1) = 0 := rd_of (z _ _ (by omega) (by omega) (by omega)) (by decide)
  have h4 : tm f (B + 1) = 0 := rd_of (z _ _ (by omega) (by omega) (by omega)) (by decide)
  refine ⟨⟨⟨hn _ _ _ (by omega) (by omega) (by decide), hn _ _ _ (by omega) (by omega) (by decide), fun r hr => hn _ _ _ (by omega) (by omega) (by decide), fun s hs r hr => hn _ _ _ (by omega) (by omega) (by decide), fun s hs r hr => hn _ _ _ (by omega) (by omega) (by decide)⟩, fun r r' h1 h2 => absurd h2 (by omega), fun r hr => absurd hr (by omega), fun s r hs hr => absurd hr (by omega), fun s k hs hk h => rfl, h4.trans tot0.symm⟩, RB.nil (z _ _ (by omega) (by omega) (by omega)), fun s hs => ⟨w s hs, by show 5 ≤ 9; decide⟩, fun i hi => z _ _ (by omega) (by omega) (by omega), z _ _ (by omega) (by omega) (by omega)⟩
