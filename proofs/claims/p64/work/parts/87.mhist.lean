/-- the reference's history: m books, the newest one first -/
def RG (f : Nat → Nat → Int32) (m : Nat) (H : HF) : Prop := m ≤ 8 ∧ f 241 5 = nI m ∧ ∀ i, i < m → RN (fun k => f 245 (169 * (m - 1 - i) + k)) (H i)
section BE
variable {h : Hp}
end BE
