/-! THE CALLS of form B that only ask -/
theorem src_t {p : Int32} (e : inr 97 99 p = true) : ∃ s, s < 3 ∧ p = nI (97 + s) := by
  obtain ⟨j, h1, h2, h3⟩ := inr_t (by decide) (by decide) e
  exact ⟨j - 97, by omega, by rw [h3]; congr 1; omega⟩
theorem key_t {p : Int32} (e : inr 0 999 p = true) : ∃ k, k < 1000 ∧ p = nI k := by
  obtain ⟨j, h1, h2, h3⟩ := inr_t (by decide) (by decide) e
  exact ⟨j, by omega, h3⟩
section CF
variable {h : Hp} {B : Nat} {b : Bk}
theorem c152_f (S : QS h B) {p : Int32} (hp : inr 97 99 p = false) : CL 152 [.ref 31, .int p] h = some (.error 1, hthr h) := by
  obtain ⟨q1, q2, q3, -⟩ := S.f
  rw [e152, q1, q2, q3, rqS_f hp]
  rfl
theorem c179_f (S : QS h B) {p : Int32} (hp : inr 97 99 p = false) : CL 179 [.ref 31, .int p] h = some (.error 1, hthr h) := by
  obtain ⟨q1, q2, q3, -⟩ := S.f
  rw [e179, q1, q2, q3, rqS_f hp]
  rfl
theorem c180_f (S : QS h B) {p : Int32} (hp : inr 97 99 p = false) : CL 180 [.ref 31, .int p] h = some (.error 1, hthr h) := by
  obtain ⟨q1, q2, q3, -⟩ := S.f
  rw [e180, q1, q2, q3, rqS_f hp]
  rfl
theorem c129_f (S : QS h B) {p q : Int32} (hp : inr 97 99 p = false) : CL 129 [.ref 31, .int p, .int q] h = some (.error 1, hthr h) := by
  obtain ⟨q1, q2, q3, -⟩ := S.f
  rw [e129, q1, q2, q3, rqS_f hp]
  rfl
theorem c142_f (S : QS h B) {p : Int32} (hp : inr 97 99 p = false) : CL 142 [.ref 31, .int p] h = some (.error 1, hthr h) := by
  obtain ⟨q1, q2, q3, -⟩ := S.f
  rw [e142, q1, q2, q3, rqS_f hp]
  rfl
theorem c111_f {p q : Int32} (hb : inr 97 99 p = false ∨ inr 0 999 q = false) : CL 111 [.ref 31, .int p, .int q] h = some (.error 1, hthr h) := by
  rw [e111]
  cases hp : inr 97 99 p with
  | false =>
    rw [rqS_f hp]
    rfl
  | true =>
    obtain ⟨s, hs, rfl⟩ := src_t hp
    rw [rqS_t hs, bI_ok, rqK_f (hb.resolve_left (by rw [hp]; decide))]
    rfl
theorem c22_e (S : QS h B) {p q : Int32} {e : Nat} (hc : CL 21 [.ref 31, .int p, .int q] h = some (.error e, hthr h)) : CL 22 [.ref 31, .int p, .int q] h = some (.error e, hthr h) := by
  rw [e22, S.f.1, hc]
  rfl
theorem c62_e (S : QS h B) {p q : Int32} {e : Nat} (hc : CL 21 [.ref 31, .int p, .int q] h = some (.error e, hthr h)) : CL 62 [.ref 31, .int p, .int q] h = some (.error e, hthr h) := by
  rw [e62, S.f.1, hc]
  rfl
theorem c178_e (S : QS h B) {p : Int32} {e : Nat} (hc : CL 13 [.ref 31, .int p] h = some (.error e, hthr h)) : CL 178 [.ref 31, .int p] h = some (.error e, hthr h) := by
  obtain ⟨q1, q2, q3, -⟩ := S.f
  rw [e178, q1, q2, q3, hc]
  rfl
theorem c16_e (S : QS h B) {p : Int32} {e : Nat} (hc : CL 13 [.ref 31, .int p] h = some (.error e, hthr h)) : CL 16 [.ref 31, .int p] h = some (.error e, hthr h) := by
  obtain ⟨q1, q2, q3, -⟩ := S.f
  rw [e16, q1, q2, q3, hc]
  rfl
theorem r263_e (S : MdS h) {p q : Int32} {v : Int32} {g : Hp} (hc : ∀ c, CL 262 [.ref 241, .int p, .int q, .int c] h = some (.ok (.int v), g)) : CL 263 [.ref 241, .int p, .int q] h = some (.ok (.int v), g) := by
  rw [e263, S.f.1, hc]
  rfl
theorem r264_e (S : MdS h) {p q : Int32} {v : Int32} {g : Hp} (hc : ∀ c, CL 262 [.ref 241, .int p, .int q, .int c] h = some (.ok (.int v), g)) : CL 264 [.ref 241, .int p, .int q] h = some (.ok (.int v), g) := by
  rw [e264, S.f.1, hc]
  rfl
end CF
section CB
variable {N : Nat} {xs : Nat → Int32} {s y : Nat} {h : Hp} {b : Bk} {m : Nat} {H : HF} {sv : Option Bk} {oe oq : Option Nat} {x : Nat → Nat} {n : Nat} {L : List Nat}
theorem b247 (K : LWc N xs s y h b m H sv oe oq x n L) (i : Int32) : SB N xs s y h (CL 247 [.ref 31, .int i, .ref 253]) (CL 249 [.ref 241, .int i]) := by
  cases e : inN (kN b) i with
  | false => exact K.qE (t := 1) (w247_3 i K.k8 (repC_f K.q K.rk e).1) (by decide) (by decide) (repM_f (h := hthr h) K.md K.rn e).1
  | true =>
    obtain ⟨j, hj, rfl⟩ := inN_t (by have := K.rn.q.1; omega) e
    exact K.qB (w247_ok _ K.k8 (repC_t K.q K.rk hj).1 K.ou) (repM_t (h := sJ h 253 0 _) K.md K.rn hj).1
theorem b250 (K : LWc N xs s y h b m H sv oe oq x n L) (i : Int32) : SB N xs s y h (CL 250 [.ref 31, .int i, .ref 253]) (CL 251 [.ref 241, .int i]) := by
  cases e : inN (kN b) i with
  | false => exact K.qE (t := 1) (w250_3 i K.k8 (repC_f K.q K.rk e).2.1) (by decide) (by decide) (repM_f (h := hthr h) K.md K.rn e).2.1
  | true =>
    obtain ⟨j, hj, rfl⟩ := inN_t (by have := K.rn.q.1; omega) e
    exact K.qB (w250_ok _ K.k8 (repC_t K.q K.rk hj).2.1 K.ou) (repM_t (h := sJ h 253 0 _) K.md K.rn hj).2.1
theorem b252 (K : LWc N xs s y h b m H sv oe oq x n L) (i : Int32) : SB N xs s y h (CL 252 [.ref 31, .int i, .ref 253]) (CL 253 [.ref 241, .int i]) := by
  cases e : inN (kN b) i with
  | false => exact K.qE (t := 1) (w252_3 i K.k8 (repC_f K.q K.rk e).2.2.1) (by decide) (by decide) (repM_f (h := hthr h) K.md K.rn e).2.2.1
  | true =>
    obtain ⟨j, hj, rfl⟩ := inN_t (by have := K.rn.q.1; omega) e
    exact K.qB (w252_ok _ K.k8 (repC_t K.q K.rk hj).2.2.1 K.ou) (repM_t (h := sJ h 253 0 _) K.md K.rn hj).2.2
theorem b254 (K : LWc N xs s y h b m H sv oe oq x n L) (i : Int32) : SB N xs s y h (CL 254 [.ref 31, .int i, .ref 253]) (CL 255 [.ref 241, .int i]) := by
  cases e : inN (kN b) i with
  | false => exact K.qE (t := 1) (w254_3 i K.k8 (repC_f K.q K.rk e).2.2.2) (by decide) (by decide) (repM_f (h := hthr h) K.md K.rn e).2.2.2
  | true =>
    obtain ⟨j, hj, rfl⟩ := inN_t (by have := K.rn.q.1; omega) e
    exact K.qB (w254_ok _ K.k8 (repC_t K.q K.rk hj).2.2.2 K.ou) (outM_t (h := sJ h 253 0 _) K.md K.rn hj)
theorem b258 (K : LWc N xs s y h b m H sv oe oq x n L) (p : Int32) : SB N xs s y h (CL 258 [.ref 31, .int p, .ref 253]) (CL 260 [.ref 241, .int p]) := by
  cases e : inr 97 99 p with
  | false => exact K.qE (t := 1) (w258_1 p K.k8 (c152_f K.q e)) (by decide) (by decide) (recordsOfM_f (h := hthr h) K.md p e)
  | true =>
    obtain ⟨s0, hs, rfl⟩ := src_t e
    exact K.qB (w258_ok _ K.k8 (recordsOf_ok K.q K.rk hs) K.ou) (recordsOfM_t (h := sJ h 253 0 _) K.md K.rm hs)
theorem b279 (K : LWc N xs s y h b m H sv oe oq x n L) (p : Int32) : SB N xs s y h (CL 279 [.ref 31, .int p, .ref 253]) (CL 281 [.ref 241, .int p]) := by
  cases e : inr 97 99 p with
  | false => exact K.qE (t := 1) (w279_1 p K.k8 (c179_f K.q e)) (by decide) (by decide) (totalOfM_f (h := hthr h) K.md p e)
  | true =>
    obtain ⟨s0, hs, rfl⟩ := src_t e
    exact K.qB (w279_ok _ K.k8 (totalOf_ok K.q K.rk hs) K.ou) (totalOfM_t (h := sJ h 253 0 _) K.md K.rm hs)
theorem b302 (K : LWc N xs s y h b m H sv oe oq x n L) (p : Int32) : SB N xs s y h (CL 302 [.ref 31, .int p, .ref 253]) (CL 303 [.ref 241, .int p]) := by
  cases e : inr 97 99 p with
  | false => exact K.qE (t := 1) (w302_1 p K.k8 (c180_f K.q e)) (by decide) (by decide) (trustM_f (h := hthr h) K.md p e)
  | true =>
    obtain ⟨s0, hs, rfl⟩ := src_t e
    exact K.qB (w302_ok _ K.k8 (trustOf_ok K.q K.rk hs) K.ou) (trustM_t (h := sJ h 253 0 _) K.md K.rn hs)
/-- a source and a key, or not -/
theorem sk_cases (p q : Int32) : (inr 97 99 p = false ∨ inr 0 999 q = false) ∨ ∃ s k, s < 3 ∧ k < 1000 ∧ p = nI (97 + s) ∧ q = nI k := by
  cases e : inr 97 99 p with
  | false => exact Or.inl (Or.inl rfl)
  | true =>
    cases e2 : inr 0 999 q with
    | false => exact Or.inl (Or.inr rfl)
    | true =>
      obtain ⟨s, hs, r1⟩ := src_t e
      obtain ⟨k, hk, r2⟩ := key_t e2
      exact Or.inr ⟨s, k, hs, hk, r1, r2⟩
theorem b198 (K : LWc N xs s y h b m H sv oe oq x n L) (p : Int32) (q : Int32) : SBb N xs s y h (CL 198 [.ref 31, .int p, .int q, .ref 253]) (CL 261 [.ref 241, .int p, .int q]) := by
  rcases sk_cases p q with e | ⟨s0, k0, hs, hk, rfl, rfl⟩
  · exact K.qEb (t := 1) (w198_1 p q K.k8 (c111_f e)) (by decide) (by decide) (hasM_f (h := hthr h) K.md p q e)
  · exact K.qBb (w198_ok _ _ K.k8 (hasRecord_ok K.q K.rk hs hk) K.ou) (hasM_t (h := sJ h 253 0 _) K.md K.rm hs hk)
theorem b186 (K : LWc N xs s y h b m H sv oe oq x n L) (p : Int32) (q : Int32) : SB N xs s y h (CL 186 [.ref 31, .int p, .int q, .ref 253]) (CL 263 [.ref 241, .int p, .int q]) := by
  rcases sk_cases p q with e | ⟨s0, k0, hs, hk, rfl, rfl⟩
  · exact K.qE (t := 1) (w186_1 p q K.k8 (c22_e K.q (rqRec_f p q e))) (by decide) (by decide) (r263_e (h := hthr h) K.md (fun c => asks_f (h := hthr h) K.md K.rm p q c e))
  · rcases Nat.eq_zero_or_pos (kA b s0 k0) with h0 | h0
    · exact K.qE (t := 2) (w186_4 _ _ K.k8 (c22_e K.q (rqRec_n K.q K.rk hs hk h0))) (by decide) (by decide) (r263_e (h := hthr h) K.md (fun c => asks_n (h := hthr h) K.md K.rm hs hk h0 c))
    · exact K.qB (w186_ok _ _ K.k8 (amountOf_ok K.q K.rk hs hk h0) K.ou) (asks_a (h := sJ h 253 0 _) K.md K.rm hs hk h0)
theorem b190 (K : LWc N xs s y h b m H sv oe oq x n L) (p : Int32) (q : Int32) : SB N xs s y h (CL 190 [.ref 31, .int p, .int q, .ref 253]) (CL 264 [.ref 241, .int p, .int q]) := by
  rcases sk_cases p q with e | ⟨s0, k0, hs, hk, rfl, rfl⟩
  · exact K.qE (t := 1) (w190_1 p q K.k8 (c62_e K.q (rqRec_f p q e))) (by decide) (by decide) (r264_e (h := hthr h) K.md (fun c => asks_f (h := hthr h) K.md K.rm p q c e))
  · rcases Nat.eq_zero_or_pos (kA b s0 k0) with h0 | h0
    · exact K.qE (t := 2) (w190_4 _ _ K.k8 (c62_e K.q (rqRec_n K.q K.rk hs hk h0))) (by decide) (by decide) (r264_e (h := hthr h) K.md (fun c => asks_n (h := hthr h) K.md K.rm hs hk h0 c))
    · exact K.qB (w190_ok _ _ K.k8 (dayOf_ok K.q K.rk hs hk h0) K.ou) (asks_d (h := sJ h 253 0 _) K.md K.rm hs hk h0)
theorem b201 (K : LWc N xs s y h b m H sv oe oq x n L) (p : Int32) (q : Int32) : SB N xs s y h (CL 201 [.ref 31, .int p, .int q, .ref 253]) (CL 265 [.ref 241, .int p, .int q]) := by
  cases e : inr 97 99 p with
  | false => exact K.qE (t := 1) (w201_1 p q K.k8 (c129_f K.q e)) (by decide) (by decide) (keyAtM_f (h := hthr h) K.md K.rm p q e)
  | true =>
    obtain ⟨s0, hs, rfl⟩ := src_t e
    have c := keyAt_ok K.q K.rk hs q
    have m1 := keyAtM_t (h := hthr h) K.md K.rm hs q
    have m2 := fun v => keyAtM_t (h := sJ h 253 0 v) K.md K.rm hs q
    cases r : kaA (kA b) s0 q with
    | none =>
      rw [r] at c m1
      exact K.qE (t := 2) (w201_3 _ _ K.k8 c) (by decide) (by decide) m1
    | some k =>
      rw [r] at c
      have m3 := m2 (nI k).toInt64
      rw [r] at m3
      exact K.qB (w201_ok _ _ K.k8 c K.ou) m3
theorem b266 (K : LWc N xs s y h b m H sv oe oq x n L) (p : Int32) : SB N xs s y h (CL 266 [.ref 31, .int p, .ref 253]) (CL 267 [.ref 241, .int p]) := by
  cases e : inr 97 99 p with
  | false => exact K.qE (t := 1) (w266_1 p K.k8 (c142_f K.q e)) (by decide) (by decide) (oldestM_f (h := hthr h) K.md K.rm p e)
  | true =>
    obtain ⟨s0, hs, rfl⟩ := src_t e
    have c := oldestKey_ok K.q K.rk hs
    have m1 := oldestM_t (h := hthr h) K.md K.rm hs
    have m2 := fun v => oldestM_t (h := sJ h 253 0 v) K.md K.rm hs
    cases r : olA (kA b) (kD b) s0 1000 with
    | none =>
      rw [r] at c m1
      exact K.qE (t := 2) (w266_4 _ K.k8 c) (by decide) (by decide) m1
    | some k =>
      rw [r] at c
      have m3 := m2 (nI k).toInt64
      rw [r] at m3
      exact K.qB (w266_ok _ K.k8 c K.ou) m3
theorem b191 (K : LWc N xs s y h b m H sv oe oq x n L) (p : Int32) : SB N xs s y h (CL 191 [.ref 31, .int p, .ref 253]) (CL 276 [.ref 241, .int p]) := by
  have c := disputedAt_ok K.q K.rk p
  have m1 := disputedM_ok (h := hthr h) K.md K.rm p
  have m2 := fun v => disputedM_ok (h := sJ h 253 0 v) K.md K.rm p
  cases r : dkA (kA b) p with
  | none =>
    rw [r] at c m1
    exact K.qE (t := 1) (w191_4 _ K.k8 c) (by decide) (by decide) m1
  | some k =>
    rw [r] at c
    have m3 := m2 (nI k).toInt64
    rw [r] at m3
    exact K.qB (w191_ok _ K.k8 c K.ou) m3
theorem b268 (K : LWc N xs s y h b m H sv oe oq x n L) (p : Int32) : SB N xs s y h (CL 268 [.ref 31, .int p, .ref 253]) (CL 269 [.ref 241, .int p]) := by
  cases e : inr 0 999 p with
  | false => exact K.qE (t := 1) (w268_1 p K.k8 (c178_e K.q (rqRow_f p e))) (by decide) (by decide) (statusM_f (h := hthr h) K.md K.rm e)
  | true =>
    obtain ⟨k0, hk, rfl⟩ := key_t e
    rcases Nat.eq_zero_or_pos (hoA (kA b) k0) with h0 | h0
    · exact K.qE (t := 2) (w268_4 _ K.k8 (c178_e K.q (rqRow_n K.q K.rk hk h0))) (by decide) (by decide) (statusM_n (h := hthr h) K.md K.rm hk h0)
    · exact K.qB (w268_ok _ K.k8 (statusOf_ok K.q K.rk hk h0) K.ou) (statusM_t (h := sJ h 253 0 _) K.md K.rm hk h0)
theorem b185 (K : LWc N xs s y h b m H sv oe oq x n L) (p : Int32) : SB N xs s y h (CL 185 [.ref 31, .int p, .ref 253]) (CL 277 [.ref 241, .int p]) := by
  cases e : inr 0 999 p with
  | false => exact K.qE (t := 1) (w185_1 p K.k8 (c16_e K.q (rqRow_f p e))) (by decide) (by decide) (accM_f (h := hthr h) K.md K.rm e)
  | true =>
    obtain ⟨k0, hk, rfl⟩ := key_t e
    rcases Nat.eq_zero_or_pos (hoA (kA b) k0) with h0 | h0
    · exact K.qE (t := 2) (w185_4 _ K.k8 (c16_e K.q (rqRow_n K.q K.rk hk h0))) (by decide) (by decide) (accM_n (h := hthr h) K.md K.rm hk h0)
    · exact K.qB (w185_ok _ K.k8 (acceptedAmount_ok K.q K.rk hk h0) K.ou) (accM_t (h := sJ h 253 0 _) K.md K.rm hk h0)
theorem b193 (K : LWc N xs s y h b m H sv oe oq x n L) : SB N xs s y h (CL 193 [.ref 31, .ref 253]) (CL 335 [.ref 241]) := by
  have c := errC_ok K.rr K.ok.2.2.2.1 K.c.2.2.2.1
  have m1 := errM_ok (h := hthr h) K.md K.ok.2.2.2.1 K.mm.2.2.2.1
  have m2 := fun v => errM_ok (h := sJ h 253 0 v) K.md K.ok.2.2.2.1 K.mm.2.2.2.1
  cases oe with
  | none => exact K.qE (t := 1) (w193_4 K.k8 c) (by decide) (by decide) m1
  | some k => exact K.qB (w193_ok K.k8 c K.ou) (m2 (nI k).toInt64)
theorem b194 (K : LWc N xs s y h b m H sv oe oq x n L) : SB N xs s y h (CL 194 [.ref 31, .ref 253]) (CL 336 [.ref 241]) := by
  have c := failC_ok K.rr K.ok.2.2.2.2.1 K.c.2.2.2.2.1
  have m1 := failM_ok (h := hthr h) K.md K.ok.2.2.2.2.1 K.mm.2.2.2.2.1
  have m2 := fun v => failM_ok (h := sJ h 253 0 v) K.md K.ok.2.2.2.2.1 K.mm.2.2.2.2.1
  cases oq with
  | none => exact K.qE (t := 1) (w194_4 K.k8 c) (by decide) (by decide) m1
  | some k => exact K.qB (w194_ok K.k8 c K.ou) (m2 (nI k).toInt64)
theorem b200 (K : LWc N xs s y h b m H sv oe oq x n L) (p : Int32) (k : Int32) (q : Int32) (l : Int32) : SBb N xs s y h (CL 200 [.ref 31, .int p, .int k, .int q, .int l, .ref 253]) (CL 284 [.ref 241, .int p, .int k, .int q, .int l]) := by
  cases e : (two p q && inr 0 999 k && inr 0 999 l) with
  | false => exact K.qEb (t := 1) (w200_1 _ _ _ _ K.k8 (ppC_f K.q K.rk p k q l e)) (by decide) (by decide) (ppM_f (h := hthr h) K.md K.rm p k q l e)
  | true =>
    obtain ⟨e1, e2⟩ := Bool.and_eq_true_iff.mp e
    obtain ⟨e3, e4⟩ := Bool.and_eq_true_iff.mp e1
    obtain ⟨s0, o0, hs, ho, hso, rfl, rfl⟩ := two_t e3
    obtain ⟨k0, hk, rfl⟩ := key_t e4
    obtain ⟨l0, hl, rfl⟩ := key_t e2
    by_cases h0 : kA b s0 k0 = 0 ∨ kA b o0 l0 = 0
    · exact K.qEb (t := 2) (w200_4 _ _ _ _ K.k8 (ppC_n K.q K.rk hs ho hso hk hl h0)) (by decide) (by decide) (ppM_n (h := hthr h) K.md K.rm hs ho hso hk hl h0)
    · exact K.qBb (w200_ok _ _ _ _ K.k8 (ppC_t K.q K.rk hs ho hso hk hl (by omega) (by omega)) K.ou) (ppM_t (h := sJ h 253 0 _) K.md K.rm hs ho hso hk hl (by omega) (by omega))
end CB
