/-! THE CALLS of program, undo, saved book -/
section CP
variable {N : Nat} {xs : Nat → Int32} {s y : Nat} {h : Hp} {b : Bk} {m : Nat} {H : HF} {sv : Option Bk} {oe oq : Option Nat} {x : Nat → Nat} {n : Nat} {L : List Nat}
theorem LWc.gL (K : LWc N xs s y h b m H sv oe oq x n L) {f1 f3 : Nat → Nat → Int32} {g : Hp} (E : Se h g) (eg : HI g = f3) (F1 : ∀ a z, ¬(31 ≤ a ∧ a < 239) → f1 a z = HI h a z) (F3 : ∀ a z, ¬(241 ≤ a ∧ a < 253) → f3 a z = f1 a z) {b' : Bk} {m' : Nat} {H' : HF} {sv' : Option Bk} {oe' oq' : Option Nat} {x' : Nat → Nat} {n' : Nat} (C : ClS f1 b' m' H' sv' oe' oq' x' n') (M : MlS f3 b' m' H' sv' oe' oq' x' n' L) (O : OKs b' m' H' sv' oe' oq' L (y + 6000)) : LW N xs (s + 1) (y + 6000) g := by
  subst eg
  exact K.fin E (fun a z q1 q2 => (F3 a z q2).trans (F1 a z q1)) (C.fr (fun a z q1 q2 => F3 a z (by omega))) M O
theorem LWc.gB (K : LWc N xs s y h b m H sv oe oq x n L) {W M : Hp → Res} {v : Int32} {f1 f3 : Nat → Nat → Int32} (hw : W h = some (.ok (.int (nI 0)), sJ (wI h f1) 253 0 v.toInt64)) (hm : M (sJ (wI h f1) 253 0 v.toInt64) = some (.ok (.int v), wI (sJ (wI h f1) 253 0 v.toInt64) f3)) (h16 : f3 241 16 = nI 0) (F1 : ∀ a z, ¬(31 ≤ a ∧ a < 239) → f1 a z = HI h a z) (F3 : ∀ a z, ¬(241 ≤ a ∧ a < 253) → f3 a z = f1 a z) {b' : Bk} {m' : Nat} {H' : HF} {sv' : Option Bk} {oe' oq' : Option Nat} {x' : Nat → Nat} {n' : Nat} (C : ClS f1 b' m' H' sv' oe' oq' x' n') (M' : MlS f3 b' m' H' sv' oe' oq' x' n' L) (O : OKs b' m' H' sv' oe' oq' L (y + 6000)) : SB N xs s y h W M := ⟨0, v, _, _, hw, ⟨K.k9, K.sc.1, K.sc.2, fun k => F1 30 k (by decide)⟩, hm, by decide, h16, fun _ => wJ_at _ _ _, K.gL (Se.refl h) rfl F1 F3 C M' O⟩
theorem LWc.gE (K : LWc N xs s y h b m H sv oe oq x n L) {W M : Hp → Res} {t : Nat} {w : Int32} {f1 f3 : Nat → Nat → Int32} (hw : W h = some (.ok (.int (nI t)), hthr (wI h f1))) (ht : t < 4) (h0 : t ≠ 0) (hm : M (hthr (wI h f1)) = some (.ok (.int w), wI (hthr (wI h f1)) f3)) (h16 : f3 241 16 = nI t) (F1 : ∀ a z, ¬(31 ≤ a ∧ a < 239) → f1 a z = HI h a z) (F3 : ∀ a z, ¬(241 ≤ a ∧ a < 253) → f3 a z = f1 a z) {b' : Bk} {m' : Nat} {H' : HF} {sv' : Option Bk} {oe' oq' : Option Nat} {x' : Nat → Nat} {n' : Nat} (C : ClS f1 b' m' H' sv' oe' oq' x' n') (M' : MlS f3 b' m' H' sv' oe' oq' x' n' L) (O : OKs b' m' H' sv' oe' oq' L (y + 6000)) : SB N xs s y h W M := ⟨t, w, _, _, hw, ⟨K.k9, K.sc.1, K.sc.2, fun k => F1 30 k (by decide)⟩, hm, ht, h16, fun e => absurd e h0, K.gL (Se.thr h) rfl F1 F3 C M' O⟩
theorem b187 (K : LWc N xs s y h b m H sv oe oq x n L) (c : Int32) : SB N xs s y h (CL 187 [.ref 31, .int c, .ref 253]) (CL 324 [.ref 241, .int c]) := by
  have T := K.c.2.2.2.2.2
  have U := K.mm.2.2.2.2.2.1
  cases e : inr 32 126 c with
  | false => exact K.qE (t := 1) (w187_1 c K.k8 (append_f c e)) (by decide) (by decide) (appendM_f (h := hthr h) K.md c U e)
  | true =>
    obtain ⟨d, d1, d2, rfl⟩ := inr_t (by decide) (by decide) e
    by_cases hn : n < 60
    · obtain ⟨f1, c1, c2, c3⟩ := append_t K.rr K.pg T d1 d2 hn
      have U1 : TY f1 x n := U.fr (fun a z q => c3 a z (by omega) (by omega))
      obtain ⟨f3, m1, m2, m3, m4⟩ := appendM_t (h := sJ (wI h f1) 253 0 (nI (n + 1)).toInt64) K.md U1 d1 d2 hn
      have w3 : ∀ a z, ¬(a = 241 ∧ (z = 13 ∨ z = 16)) → a ≠ 250 → a ≠ 221 → a ≠ 222 → f3 a z = HI h a z := fun a z p1 p2 p3 p4 => (m4 a z p1 p2).trans (c3 a z p3 p4)
      have C := K.c
      have M := K.mm
      refine K.gB (w187_ok _ K.k8 c1 K.ou) m1 m3 (fun a z q => c3 a z (by omega) (by omega)) (fun a z q => m4 a z (by omega) (by omega)) (b' := b) (m' := m) (H' := H) (sv' := sv) (oe' := oe) (oq' := oq) (x' := ud x n d) (n' := n + 1) ⟨C.1.bt (fun a z q1 q2 => c3 a z (by omega) (by omega)), C.2.1.fr (fun a z q1 q2 => c3 a z (by omega) (by omega)), C.2.2.1.fr (fun a z q => c3 a z (by omega) (by omega)), (c3 31 9 (by omega) (by omega)).trans C.2.2.2.1, (c3 31 10 (by omega) (by omega)).trans C.2.2.2.2.1, c2⟩ ⟨M.1.cong (fun k hk => w3 242 k (by omega) (by omega) (by omega) (by omega)), M.2.1.fr (fun a z q => w3 a z (by omega) (by omega) (by omega) (by omega)), M.2.2.1.fr (fun a z q => w3 a z (by omega) (by omega) (by omega) (by omega)), (w3 241 6 (by omega) (by omega) (by omega) (by omega)).trans M.2.2.2.1, (w3 241 7 (by omega) (by omega) (by omega) (by omega)).trans M.2.2.2.2.1, m2, M.2.2.2.2.2.2.fr (fun a z q => w3 a z (by omega) (by omega) (by omega) (by omega))⟩ (K.ok.up (by omega))
    · exact K.qE (t := 2) (w187_2 _ K.k8 (append_n K.rr K.pg T d1 d2 hn)) (by decide) (by decide) (appendM_n (h := hthr h) K.md U d1 d2 hn)
theorem b338 (K : LWc N xs s y h b m H sv oe oq x n L) : SB N xs s y h (CL 338 [.ref 31, .ref 253]) (CL 339 [.ref 241]) := by
  cases m with
  | zero => exact K.qE (t := 1) (w338_2 K.k8 (undoC_f K.rr K.c.2.1)) (by decide) (by decide) (undoM_f (h := hthr h) K.md K.mm.2.1)
  | succ m =>
    obtain ⟨f1, c1, c2, c3, c4⟩ := undoC_t K.rr K.c.2.1
    have O := K.ok
    exact K.chgG (w338_ok K.k8 c1 K.ou) c2 c3 c4 (undoM_t (h := sJ (wI h f1) 253 0 _) K.md (K.rg1 c4)) ⟨⟨(O.2.1 0 (by omega)).1, (O.2.1 0 (by omega)).2.up (by omega)⟩, fun i hi => ⟨(O.2.1 (i + 1) (by omega)).1, (O.2.1 (i + 1) (by omega)).2.up (by omega)⟩, (O.up (by omega)).2.2⟩
theorem a175 (K : LWc N xs s y h b m H sv oe oq x n L) : SA N xs s y h (CL 175 [.ref 31]) (CL 340 [.ref 241]) := by
  obtain ⟨f1, c1, c2, c3⟩ := saveC_ok K.rr K.rk
  have R1 : RN (f1 242) b := K.rn.cong (fun k hk => c3 242 k (by omega) (by omega))
  obtain ⟨f3, m1, m2, m3, m4⟩ := saveM_ok (h := wI h f1) K.md R1
  have m4' : ∀ a z, a ≠ 244 → ¬(a = 241 ∧ (z = 16 ∨ z = 4)) → f3 a z = f1 a z := m4
  have w3 : ∀ a z, a ≠ 244 → ¬(a = 241 ∧ (z = 16 ∨ z = 4)) → ¬(66 ≤ a ∧ a < 83) → ¬(a = 31 ∧ z = 8) → f3 a z = HI h a z := fun a z p1 p2 p3 p4 => (m4' a z p1 p2).trans (c3 a z p3 p4)
  have C := K.c
  have M := K.mm
  have O := K.ok.up (y' := y + 6000) (by omega)
  exact ⟨_, wI h f1, wI h f3, c1, K.k9, m1, K.gL (Se.refl h) rfl (fun a z q => c3 a z (by omega) (by omega)) (fun a z q => m4' a z (by omega) (by omega)) (b' := b) (m' := m) (H' := H) (sv' := some b) (oe' := oe) (oq' := oq) (x' := x) (n' := n) ⟨C.1.bt (fun a z q1 q2 => c3 a z (by omega) (by omega)), C.2.1.fr (fun a z q1 q2 => c3 a z (by omega) (by omega)), c2, (c3 31 9 (by omega) (by omega)).trans C.2.2.2.1, (c3 31 10 (by omega) (by omega)).trans C.2.2.2.2.1, C.2.2.2.2.2.fr (fun a z q => c3 a z (by omega) (by omega))⟩ ⟨M.1.cong (fun k hk => w3 242 k (by omega) (by omega) (by omega) (by omega)), M.2.1.fr (fun a z q => w3 a z (by omega) (by omega) (by omega) (by omega)), m2, (w3 241 6 (by omega) (by omega) (by omega) (by omega)).trans M.2.2.2.1, (w3 241 7 (by omega) (by omega) (by omega) (by omega)).trans M.2.2.2.2.1, M.2.2.2.2.2.1.fr (fun a z q => w3 a z (by omega) (by omega) (by omega) (by omega)), M.2.2.2.2.2.2.fr (fun a z q => w3 a z (by omega) (by omega) (by omega) (by omega))⟩ ⟨O.1, O.2.1, fun t ht => (Option.some.inj ht) ▸ O.1, O.2.2.2⟩⟩
theorem b341 (K : LWc N xs s y h b m H sv oe oq x n L) : SB N xs s y h (CL 341 [.ref 31, .ref 253]) (CL 342 [.ref 241]) := by
  cases sv with
  | none => exact K.qE (t := 1) (w341_2 K.k8 (restoreC_f K.rr K.c.2.2.1)) (by decide) (by decide) (restoreM_f (h := hthr h) K.md K.mm.2.2.1)
  | some b0 =>
    obtain ⟨f1, c1, c2, c3, c4⟩ := restoreC_t (H' := H) K.rr K.c.2.2.1 K.c.2.1
    have O := K.ok.up (y' := y + 6000) (by omega)
    have c4' : ∀ a z, ¬(32 ≤ a ∧ a < 49) → ¬(83 ≤ a ∧ a < 221) → f1 a z = HI h a z := c4
    have S1 : RS f1 (some b0) := K.mm.2.2.1.fr (fun a z q => c4' a z (by omega) (by omega))
    exact K.chgG (w341_ok K.k8 c1 K.ou) c2 c3 c4 (restoreM_t (h := sJ (wI h f1) 253 0 _) K.md S1) ⟨O.2.2.1 b0 rfl, fun i hi => absurd hi (Nat.not_lt_zero i), O.2.2⟩
end CP
