theorem RM.a9 {g : Nat → Int32} {A D : AF} (R : RM g A D) {s k : Nat} (hs : s < 3) (hk : k < 1000) : A s k < 100 := by
  by_cases h0 : 0 < A s k
  · obtain ⟨j, h1, h2, h3⟩ := R.ex hs hk h0
    have := R.b h1
    rw [h2, h3] at this
    exact this.2.2.2.1
  · omega
section MQ
variable {h : Hp} {A D : AF}
end MQ
