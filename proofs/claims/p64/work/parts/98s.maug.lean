/-! THE REFERENCE: matching -/
theorem Ch.st {E : EF} {m : MF} {rb : Nat → Nat} {st : Nat} : ∀ {d r : Nat}, Ch E m rb st d r → m st = none
  | 0, _, h => h.2.2
  | _ + 1, _, h => by
    obtain ⟨_, _, _, h2⟩ := h
    exact h2.st
def Fp (f f' : Nat → Nat → Int32) : Prop := ∀ a x, a ≠ 246 → a ≠ 247 → a ≠ 248 → f' a x = f a x
theorem Fp.rf {f : Nat → Nat → Int32} : Fp f f := fun _ _ _ _ _ => rfl
theorem Fp.u2 {f g : Nat → Nat → Int32} (h : Fp f g) {a k : Nat} {v : Int32} (ha : a = 246 ∨ a = 247 ∨ a = 248) : Fp f (u2 g a k v) := fun b x h1 h2 h3 => (w2_ne (by omega)).trans (h b x h1 h2 h3)
theorem Fp.trans {f g k : Nat → Nat → Int32} (H : Fp f g) (K : Fp g k) : Fp f k := fun a x q1 q2 q3 => (K a x q1 q2 q3).trans (H a x q1 q2 q3)
def Mp (f : Nat → Nat → Int32) (n : Nat) (m : MF) : Prop := ∀ i, i < n → f 246 i = oI (m i)
theorem Mp.flp {f : Nat → Nat → Int32} {n l r : Nat} {m : MF} (M : Mp f n m) (hlr : l ≠ r) : Mp (u2 (u2 f 246 r (nI l)) 246 l (nI r)) n (flp m l r) := by
  intro i hi
  by_cases q1 : i = r
  · subst q1
    rw [w2_ne (by omega), w2_eq, flp_r]
    rfl
  · by_cases q2 : i = l
    · subst q2
      rw [w2_eq, flp_l hlr]
      rfl
    · rw [w2_ne (by omega), w2_ne (by omega), flp_o q1 q2]
      exact M i hi
section MM
variable {h : Hp} {A D : AF}
def Q2 (h : Hp) (E : EF) (n : Nat) (m : MF) (st : Nat) (f : Nat → Nat → Int32) (res : Res) : Prop := (∃ m' f', res = some (.ok (.int (nI 1)), wI h f') ∧ Mp f' n m' ∧ won E m m' st ∧ Fp f f') ∨ ∃ f', res = some (.ok (.int (nI 0)), wI h f') ∧ Mp f' n m ∧ lost E m st ∧ Fp f f'
def PM (E : EF) (n : Nat) (m : MF) (st : Nat) (f : Nat → Nat → Int32) (p : Nat) (q rb : Nat → Nat) (sn : Nat → Bool) (g : Nat → Nat → Int32) (T : Nat) : Prop := BQ E m n st q T rb sn ∧ (∀ x, x < T → g 248 x = nI (q x)) ∧ (∀ i, i < n → g 247 i = if sn i then nI (rb i) else -nI 1) ∧ (∀ r, E (rb r) r = sn r) ∧ (∀ x, x < p → ∀ r, E (q x) r = true → sn r = true) ∧ Fp f g ∧ Mp g n m
theorem PM.le {E : EF} {n : Nat} {m : MF} {st : Nat} {f : Nat → Nat → Int32} {p : Nat} {q rb : Nat → Nat} {sn : Nat → Bool} {g : Nat → Nat → Int32} {T : Nat} (H : PM E n m st f p q rb sn g T) : T ≤ n := H.1.le
/-- who stands in the queue may be a left record -/
theorem BQ.left {E : EF} {m : MF} {n st T : Nat} {q rb : Nat → Nat} {sn : Nat → Bool} (L : LR E n) (M : MT E m) (B : BQ E m n st q T rb sn) {p : Nat} (hp : p < T) : q p = st ∨ ∃ r, E (q p) r = true := by
  by_cases p0 : p = 0
  · subst p0
    exact .inl B.1.1
  · obtain ⟨r, p', h1, h2, h3, h4, h5⟩ := B.2.1 p (by omega) hp
    refine .inr ⟨r, ?_⟩
    rcases (M _ _ h2).2 with z | z
    · exact z
    · have := L.2 r (q p) (q p') z
      rw [h5] at this
      cases this
end MM
