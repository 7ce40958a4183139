/-! THE CALLS of form B that use scratch: matchings and groups -/
section CX
variable {N : Nat} {xs : Nat → Int32} {s y : Nat} {h : Hp} {b : Bk} {m : Nat} {H : HF} {sv : Option Bk} {oe oq : Option Nat} {x : Nat → Nat} {n : Nat} {L : List Nat}
theorem LWc.sB (K : LWc N xs s y h b m H sv oe oq x n L) {W M : Hp → Res} {v : Int32} {f1 f3 : Nat → Nat → Int32} (hw : W h = some (.ok (.int (nI 0)), sJ (wI h f1) 253 0 v.toInt64)) (F1 : ∀ a z, ¬(227 ≤ a ∧ a < 239) → f1 a z = HI h a z) (hm : M (sJ (wI h f1) 253 0 v.toInt64) = some (.ok (.int v), wI (sJ (wI h f1) 253 0 v.toInt64) f3)) (h16 : f3 241 16 = nI 0) (F3 : ∀ a z, ¬(a = 243 ∨ 246 ≤ a ∧ a < 250 ∨ a = 252 ∨ a = 241 ∧ 16 ≤ z) → f3 a z = f1 a z) : SB N xs s y h W M := ⟨0, v, _, _, hw, ⟨K.k9, K.sc.1, K.sc.2, fun k => F1 30 k (by decide)⟩, hm, by decide, h16, fun _ => wJ_at _ _ _, K.scr (Se.refl h) (fun a z q1 q2 => (F3 a z q2).trans (F1 a z q1))⟩
theorem LWc.sBb (K : LWc N xs s y h b m H sv oe oq x n L) {W M : Hp → Res} {p : Bool} {f1 f3 : Nat → Nat → Int32} (hw : W h = some (.ok (.int (nI 0)), sJ (wI h f1) 253 0 (nI (b2n p)).toInt64)) (F1 : ∀ a z, ¬(227 ≤ a ∧ a < 239) → f1 a z = HI h a z) (hm : M (sJ (wI h f1) 253 0 (nI (b2n p)).toInt64) = some (.ok (.int (nI (b2n p))), wI (sJ (wI h f1) 253 0 (nI (b2n p)).toInt64) f3)) (h16 : f3 241 16 = nI 0) (F3 : ∀ a z, ¬(a = 243 ∨ 246 ≤ a ∧ a < 250 ∨ a = 252 ∨ a = 241 ∧ 16 ≤ z) → f3 a z = f1 a z) : SBb N xs s y h W M := ⟨0, nI (b2n p), _, _, hw, ⟨K.k9, K.sc.1, K.sc.2, fun k => F1 30 k (by decide)⟩, hm, by decide, h16, fun _ => ⟨wJ_at _ _ _, b2n_or p⟩, K.scr (Se.refl h) (fun a z q1 q2 => (F3 a z q2).trans (F1 a z q1))⟩
theorem b285 (K : LWc N xs s y h b m H sv oe oq x n L) (p : Int32) (q : Int32) : SB N xs s y h (CL 285 [.ref 31, .int p, .int q, .ref 253]) (CL 286 [.ref 241, .int p, .int q]) := by
  cases e : two p q with
  | false => exact K.qE (t := 1) (w285_1 _ _ K.k8 (pairsC_f K.rr e)) (by decide) (by decide) (pairsM_f (h := hthr h) K.md K.rm e)
  | true =>
    obtain ⟨s0, o0, hs, ho, hso, rfl, rfl⟩ := two_t e
    obtain ⟨f1, c1, c2⟩ := pairsC_t K.rr K.mg K.rk hs ho hso
    have F1 : ∀ a z, ¬(227 ≤ a ∧ a < 239) → f1 a z = HI h a z := fun a z q => c2 a z (by omega)
    exact K.sB (w285_ok _ _ K.k8 c1 K.ou) F1 (pairsM_t (h := sJ (wI h f1) 253 0 _) K.md (K.rm1 F1) hs ho hso) (tH_at (sJ (wI h f1) 253 0 (nI (pcA (kA b) s0 o0)).toInt64) 0) (fun a z q => tH_ne (sJ (wI h f1) 253 0 (nI (pcA (kA b) s0 o0)).toInt64) 0 (by omega))
theorem b287 (K : LWc N xs s y h b m H sv oe oq x n L) (p : Int32) (q : Int32) : SB N xs s y h (CL 287 [.ref 31, .int p, .int q, .ref 253]) (CL 292 [.ref 241, .int p, .int q]) := by
  cases e : two p q with
  | false => exact K.qE (t := 1) (w287_1 _ _ K.k8 (matchingC_f e).1) (by decide) (by decide) (matchingM_f (h := hthr h) K.md e).1
  | true =>
    obtain ⟨s0, o0, hs, ho, hso, rfl, rfl⟩ := two_t e
    obtain ⟨z, f1, c1, c2, c3, c4⟩ := matchingC_t K.rr K.mg K.rk hs ho hso
    have F1 : ∀ a z, ¬(227 ≤ a ∧ a < 239) → f1 a z = HI h a z := fun a z q => c4 a z (by omega)
    obtain ⟨w, f3, m1, m2, m3, m4, m5, m6⟩ := matchingM_t (h := sJ (wI h f1) 253 0 (nI z).toInt64) K.md (K.rm1 F1) hs ho hso
    rw [MC_eq m3 c2] at m1 m2
    exact K.sB (w287_ok _ _ K.k8 c1 K.ou) F1 m1 m5 (fun a z q => (m6 a z (by omega) (by omega) (by omega)).trans (if_neg (by omega)))
theorem b293 (K : LWc N xs s y h b m H sv oe oq x n L) (p : Int32) (q : Int32) : SB N xs s y h (CL 293 [.ref 31, .int p, .int q, .ref 253]) (CL 294 [.ref 241, .int p, .int q]) := by
  cases e : two p q with
  | false => exact K.qE (t := 1) (w293_1 _ _ K.k8 (matchingC_f e).2) (by decide) (by decide) (matchingM_f (h := hthr h) K.md e).2
  | true =>
    obtain ⟨s0, o0, hs, ho, hso, rfl, rfl⟩ := two_t e
    obtain ⟨z, f1, c1, c2, c3, c4⟩ := layersC_t K.rr K.mg K.rk hs ho hso
    have F1 : ∀ a z, ¬(227 ≤ a ∧ a < 239) → f1 a z = HI h a z := fun a z q => c4 a z (by omega)
    obtain ⟨w, f3, m1, m2, m3, m4, m5, m6⟩ := matchingM_t (h := sJ (wI h f1) 253 0 (nI z).toInt64) K.md (K.rm1 F1) hs ho hso
    rw [MC_eq m3 c2] at m1 m2
    exact K.sB (w293_ok _ _ K.k8 c1 K.ou) F1 m2 m5 (fun a z q => (m6 a z (by omega) (by omega) (by omega)).trans (if_neg (by omega)))
theorem b199 (K : LWc N xs s y h b m H sv oe oq x n L) (p : Int32) (k : Int32) (q : Int32) : SBb N xs s y h (CL 199 [.ref 31, .int p, .int k, .int q, .ref 253]) (CL 295 [.ref 241, .int p, .int k, .int q]) := by
  cases e : (two p q && inr 0 999 k) with
  | false => exact K.qEb (t := 1) (w199_1 _ _ _ K.k8 (needC_f K.rr p k q e)) (by decide) (by decide) (needM_f (h := hthr h) K.md K.rm p k q e)
  | true =>
    obtain ⟨e3, e4⟩ := Bool.and_eq_true_iff.mp e
    obtain ⟨s0, o0, hs, ho, hso, rfl, rfl⟩ := two_t e3
    obtain ⟨k0, hk, rfl⟩ := key_t e4
    rcases Nat.eq_zero_or_pos (kA b s0 k0) with h0 | h0
    · exact K.qEb (t := 2) (w199_4 _ _ _ K.k8 (needC_n K.rr K.rk hs ho hso hk h0)) (by decide) (by decide) (needM_n (h := hthr h) K.md K.rm hs ho hso hk h0)
    · obtain ⟨z, z', f1, c1, c2, c3, c4⟩ := needC_t K.rr K.mg K.rk hs ho hso hk h0
      have F1 : ∀ a z, ¬(227 ≤ a ∧ a < 239) → f1 a z = HI h a z := fun a z q => c4 a z (by omega)
      obtain ⟨w, w', f3, m1, m2, m3, m5, m6⟩ := needM_t (h := sJ (wI h f1) 253 0 (nI (b2n (decide (z' < z)))).toInt64) K.md (K.rm1 F1) hs ho hso hk h0
      rw [MC_eq m2 c2, MC_eq m3 c3] at m1
      exact K.sBb (w199_ok _ _ _ K.k8 c1 K.ou) F1 m1 m5 (fun a z q => (m6 a z (by omega) (by omega) (by omega)).trans (if_neg (by omega)))
theorem b197 (K : LWc N xs s y h b m H sv oe oq x n L) (p : Int32) (q : Int32) : SB N xs s y h (CL 197 [.ref 31, .int p, .int q, .ref 253]) (CL 301 [.ref 241, .int p, .int q]) := by
  rcases sk_cases p q with e | ⟨s0, k0, hs, hk, rfl, rfl⟩
  · exact K.qE (t := 1) (w197_1 p q K.k8 (groupSizeC_f K.rr K.rk p q e)) (by decide) (by decide) (groupSizeM_f (h := hthr h) K.md K.rm p q e)
  · rcases Nat.eq_zero_or_pos (kA b s0 k0) with h0 | h0
    · exact K.qE (t := 2) (w197_4 _ _ K.k8 (groupSizeC_n K.rr K.rk hs hk h0)) (by decide) (by decide) (groupSizeM_n (h := hthr h) K.md K.rm hs hk h0)
    · obtain ⟨f1, c1, c2⟩ := groupSizeC_t K.rr K.gr K.rk hs hk h0
      have F1 : ∀ a z, ¬(227 ≤ a ∧ a < 239) → f1 a z = HI h a z := fun a z q => c2 a z (by omega)
      obtain ⟨f3, m1, m2, m3⟩ := groupSizeM_t (h := sJ (wI h f1) 253 0 (nI (gsA (kA b) k0)).toInt64) K.md (K.rm1 F1) hs hk h0
      exact K.sB (w197_ok _ _ K.k8 c1 K.ou) F1 m1 m2 (fun a z q => m3 a z (by omega) (by omega))
end CX
