/-! THE REFERENCE: the line of the batch; a character of the line -/
def repL (A : AF) (Q : QF) (i : Nat) : List Nat := ((([97 + (Q i).1] ++ dig (Q i).2.1) ++ [61]) ++ dig (Q i).2.2) ++ [oc A Q i]
def batL (A : AF) (Q : QF) : Nat → List Nat
  | 0 => []
  | i + 1 => (batL A Q i ++ (if i = 0 then [] else [32])) ++ repL A Q i
section LQ4
variable {h : Hp} {b : Bk}
/-- only characters under 128 -/
def Lo (L : List Nat) : Prop := ∀ c, c ∈ L → c < 128
theorem Lo.app {L M : List Nat} (H : Lo L) (K : Lo M) : Lo (L ++ M) := fun c hc => (List.mem_append.mp hc).elim (H c) (K c)
theorem Lo.one {c : Nat} (h : c < 128) : Lo [c] := fun d hd => (List.mem_singleton.mp hd) ▸ h
theorem Lo.nil : Lo [] := fun _ h => nomatch h
theorem digR_lo (v : Nat) : ∀ r, Lo (digR v r)
  | 0 => Lo.nil
  | r + 1 => by
    have : 48 + v / 10 ^ r % 10 < 128 := by
      have := Nat.mod_lt (v / 10 ^ r) (show 10 > 0 by decide)
      omega
    exact (Lo.one this).app (digR_lo v r)
theorem dig_lo (v : Nat) : Lo (dig v) := digR_lo v _
theorem recL_lo (b : Bk) {s : Nat} (hs : s < 3) (k : Nat) : Lo (recL b s k) := ((((((Lo.one (by omega)).app (dig_lo _)).app (Lo.one (by decide))).app (dig_lo _)).app (Lo.one (by decide))).app (Lo.one (by decide))).app (dig_lo _)
theorem pcs_lo (A : AF) (k : Nat) {s : Nat} (hs : s < 3) : Lo (pcs A k s) := by
  unfold pcs
  split
  · exact ((Lo.one (by decide)).app (Lo.one (by omega))).app (dig_lo _)
  · exact Lo.nil
theorem wrd_lo : (∀ c, c ∈ lws 4 0 10 → c < 128) ∧ (∀ c, c ∈ lws 6 0 11 → c < 128) ∧ ∀ c, c ∈ lws 8 0 5 → c < 128 := by decide +kernel
theorem keyL_lo (A : AF) (k : Nat) : Lo (keyL A k) := by
  have hb : Lo (keyB A k) := ((((dig_lo k).app (Lo.one (by decide))).app (pcs_lo A k (by decide))).app (pcs_lo A k (by decide))).app (pcs_lo A k (by decide))
  obtain ⟨w1, w2, w3⟩ := wrd_lo
  unfold keyL
  split
  · exact hb.app w1
  · split
    · exact (hb.app w2).app (dig_lo _)
    · exact hb.app w3
theorem batL_lo {A : AF} {Q : QF} {n : Nat} (hQ : ∀ i, i < n → (Q i).1 < 3) : ∀ i, i ≤ n → Lo (batL A Q i)
  | 0, _ => Lo.nil
  | i + 1, hi => by
    have ih := batL_lo (A := A) hQ i (by omega)
    have h1 := hQ i (by omega)
    have h2 := oc_lt A Q i
    refine (ih.app ?_).app ((((((Lo.one (by omega)).app (dig_lo _)).app (Lo.one (by decide))).app (dig_lo _)).app (Lo.one (by omega))))
    split
    · exact Lo.nil
    · exact Lo.one (by decide)
theorem Lo.at {L : List Nat} (H : Lo L) {i : Nat} (hi : i < L.length) : L.getD i 0 < 128 := by
  rw [List.getD_eq_getElem?_getD, List.getElem?_eq_getElem hi]
  exact H _ (List.getElem_mem hi)
end LQ4
