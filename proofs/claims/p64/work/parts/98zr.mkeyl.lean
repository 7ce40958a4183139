/-! THE REFERENCE: the line of a key -/
def pcs (A : AF) (k s : Nat) : List Nat := if 0 < A s k then ([32] ++ [97 + s]) ++ dig (A s k) else []
def keyB (A : AF) (k : Nat) : List Nat := (((dig k ++ [58]) ++ pcs A k 0) ++ pcs A k 1) ++ pcs A k 2
/-- n characters of a word from i on -/
def lws (a i : Nat) : Nat → List Nat
  | 0 => []
  | n + 1 => lch a i :: lws a (i + 1) n
def keyL (A : AF) (k : Nat) : List Nat := if stA A k = 99 then keyB A k ++ lws 4 0 10 else if stA A k = 100 then (keyB A k ++ lws 6 0 11) ++ dig (acA A k) else keyB A k ++ lws 8 0 5
theorem lws28 : lws 4 0 10 = lws 4 0 10 ∧ lws 6 0 11 = lws 6 0 11 ∧ lws 8 0 5 = lws 8 0 5 ∧ lln 28 = 7 ∧ lln 4 = 10 ∧ lln 6 = 11 ∧ lln 8 = 5 ∧ lln 10 = 2 ∧ lws 10 0 2 = [32] ++ [64] := by decide +kernel
theorem lws_len (a : Nat) : ∀ n i, (lws a i n).length = n
  | 0, _ => rfl
  | n + 1, i => congrArg (· + 1) (lws_len a n (i + 1))
theorem pcs_len {A : AF} {k s : Nat} (h : A s k < 100) : (pcs A k s).length ≤ 4 := by
  have := dig_len2 h
  unfold pcs
  split
  · rw [la2]
    show 2 + (dig (A s k)).length ≤ 4
    omega
  · exact Nat.zero_le 4
theorem keyB_len {A : AF} {k : Nat} (hk : k < 1000) (h : ∀ s, s < 3 → A s k < 100) : (keyB A k).length ≤ 16 := by
  have h0 := pcs_len (h 0 (by decide))
  have h1 := pcs_len (h 1 (by decide))
  have h2 := pcs_len (h 2 (by decide))
  have h3 := dig_len3 hk
  unfold keyB
  rw [la2, la2, la2, la1]
  omega
section LQ2
variable {h : Hp} {b : Bk}
end LQ2
