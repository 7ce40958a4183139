/-! LINES: digits; the reference's line -/
/-- how many digits -/
def dsz (v : Nat) : Nat := (fst? (fun m => decide (v < 10 ^ (m + 1))) 10).getD 9 + 1
/-- the r last digits -/
def digR (v : Nat) : Nat → List Nat
  | 0 => []
  | r + 1 => (48 + v / 10 ^ r % 10) :: digR v r
def dig (v : Nat) : List Nat := digR v (dsz v)
theorem dsz_spec {v : Nat} (hv : v < 1073741824) : 1 ≤ dsz v ∧ dsz v ≤ 10 ∧ v < 10 ^ dsz v ∧ ∀ k, k + 1 < dsz v → 10 ^ (k + 1) ≤ v := by
  unfold dsz
  cases hq : fst? (fun m => decide (v < 10 ^ (m + 1))) 10 with
  | none =>
    have := of_decide_eq_false (fst_none.mp hq 9 (by decide))
    omega
  | some m =>
    obtain ⟨h1, h2, h3⟩ := fst_some.mp hq
    refine ⟨by show 1 ≤ m + 1; omega, by show m + 1 ≤ 10; omega, of_decide_eq_true h2, fun k hk => ?_⟩
    have hk : k + 1 < m + 1 := hk
    have := of_decide_eq_false (h3 k (by omega))
    omega
theorem digR_len (v : Nat) : ∀ r, (digR v r).length = r
  | 0 => rfl
  | r + 1 => congrArg (· + 1) (digR_len v r)
theorem dig_len {v : Nat} (hv : v < 1073741824) : 1 ≤ (dig v).length ∧ (dig v).length ≤ 10 := by
  have := dsz_spec hv
  unfold dig
  rw [digR_len]
  omega
theorem p10_le {r : Nat} (h : r ≤ 9) : 10 ^ r ≤ 1000000000 ∧ 1 ≤ 10 ^ r := ⟨Nat.pow_le_pow_right (by decide) h, Nat.one_le_pow _ _ (by decide)⟩
theorem dsz_le {v r : Nat} (hr : r ≤ 9) (hr1 : 1 ≤ r) (hv : v < 10 ^ r) : dsz v ≤ r := by
  have := p10_le hr
  by_cases q : dsz v ≤ r
  · exact q
  · have h1 := (dsz_spec (v := v) (by omega)).2.2.2 (r - 1) (by omega)
    rw [Nat.sub_add_cancel hr1] at h1
    omega
theorem dig_len3 {v : Nat} (hv : v < 1000) : (dig v).length ≤ 3 := by
  unfold dig
  rw [digR_len]
  exact dsz_le (by decide) (by decide) hv
theorem dig_len2 {v : Nat} (hv : v < 100) : (dig v).length ≤ 2 := by
  unfold dig
  rw [digR_len]
  exact dsz_le (by decide) (by decide) hv
section LI
variable {h : Hp}
end LI
