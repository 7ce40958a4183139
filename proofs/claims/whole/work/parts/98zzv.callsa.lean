/-! THE CALLS of form A, but for those that change -/
section CA
variable {N : Nat} {xs : Nat → Int32} {s y : Nat} {h : Hp} {b : Bk} {m : Nat} {H : HF} {sv : Option Bk} {oe oq : Option Nat} {x : Nat → Nat} {n : Nat} {L : List Nat}
theorem a183 (K : LWc N xs s y h b m H sv oe oq x n L) : SA N xs s y h (CL 183 [.ref 31]) (CL 337 [.ref 241]) := K.qA (undoableC_ok K.rr K.c.2.1) (undoableM_ok K.md K.mm.2.1)
theorem a68 (K : LWc N xs s y h b m H sv oe oq x n L) : SA N xs s y h (CL 68 [.ref 31]) (CL 305 [.ref 241]) := K.qA (totalsC_ok K.q K.rk).1 (totalsM_ok K.md K.rn).1
theorem a60 (K : LWc N xs s y h b m H sv oe oq x n L) : SA N xs s y h (CL 60 [.ref 31]) (CL 306 [.ref 241]) := K.qA (totalsC_ok K.q K.rk).2.1 (totalsM_ok K.md K.rn).2.1
theorem a140 (K : LWc N xs s y h b m H sv oe oq x n L) : SA N xs s y h (CL 140 [.ref 31]) (CL 307 [.ref 241]) := K.qA (totalsC_ok K.q K.rk).2.2.1 (totalsM_ok K.md K.rn).2.2.1
theorem a67 (K : LWc N xs s y h b m H sv oe oq x n L) : SA N xs s y h (CL 67 [.ref 31]) (CL 308 [.ref 241]) := K.qA (totalsC_ok K.q K.rk).2.2.2.1 (totalsM_ok K.md K.rn).2.2.2.1
theorem a56 (K : LWc N xs s y h b m H sv oe oq x n L) : SA N xs s y h (CL 56 [.ref 31]) (CL 309 [.ref 241]) := K.qA (totalsC_ok K.q K.rk).2.2.2.2.1 (totalsM_ok K.md K.rn).2.2.2.2.1
theorem a154 (K : LWc N xs s y h b m H sv oe oq x n L) : SA N xs s y h (CL 154 [.ref 31]) (CL 310 [.ref 241]) := K.qA (totalsC_ok K.q K.rk).2.2.2.2.2.1 (totalsM_ok K.md K.rn).2.2.2.2.2.1
theorem a177 (K : LWc N xs s y h b m H sv oe oq x n L) : SA N xs s y h (CL 177 [.ref 31]) (CL 311 [.ref 241]) := K.qA (totalsC_ok K.q K.rk).2.2.2.2.2.2 (totalsM_ok K.md K.rn).2.2.2.2.2.2
theorem a139 (K : LWc N xs s y h b m H sv oe oq x n L) : SA N xs s y h (CL 139 [.ref 31]) (CL 304 [.ref 241]) := K.qA (mostTrusted_ok K.q K.rk) (mostTrustedM_ok K.md K.rn)
theorem a17 (K : LWc N xs s y h b m H sv oe oq x n L) : SA N xs s y h (CL 17 [.ref 31]) (CL 278 [.ref 241]) := K.qA (acceptedTotal_ok K.q K.rk) (acceptedTotalM_ok K.md K.rm)
theorem a58 (K : LWc N xs s y h b m H sv oe oq x n L) : SA N xs s y h (CL 58 [.ref 31]) (CL 273 [.ref 241]) := K.qA (confirmedCount_ok K.q K.rk) (countsM_ok K.md K.rm).1
theorem a65 (K : LWc N xs s y h b m H sv oe oq x n L) : SA N xs s y h (CL 65 [.ref 31]) (CL 274 [.ref 241]) := K.qA (disputedCount_ok K.q K.rk) (countsM_ok K.md K.rm).2.1
theorem a143 (K : LWc N xs s y h b m H sv oe oq x n L) : SA N xs s y h (CL 143 [.ref 31]) (CL 275 [.ref 241]) := K.qA (openCount_ok K.q K.rk) (countsM_ok K.md K.rm).2.2
theorem a150 (K : LWc N xs s y h b m H sv oe oq x n L) : SA N xs s y h (CL 150 [.ref 31]) (CL 257 [.ref 241]) := K.qA (recordCount_ok K.q K.rk) (recordCountM_ok K.md K.rn)
theorem a29 (K : LWc N xs s y h b m H sv oe oq x n L) : SA N xs s y h (CL 29 [.ref 31]) (CL 256 [.ref 241]) := K.qA (canClose_ok K.q K.rk) (canCloseM_ok K.md K.rn)
theorem a157 (K : LWc N xs s y h b m H sv oe oq x n L) : SA N xs s y h (CL 157 [.ref 31]) (CL 246 [.ref 241]) := K.qA (reportCount_ok K.q K.rk) (reportCountM_ok K.md K.rn)
theorem a61 (K : LWc N xs s y h b m H sv oe oq x n L) : SA N xs s y h (CL 61 [.ref 31]) (CL 245 [.ref 241]) := K.qA (day_ok K.q K.rk) (dayM_ok K.md K.rn)
/-- both sides answer, and scratch changes -/
theorem LWc.sA (K : LWc N xs s y h b m H sv oe oq x n L) {C M : Hp → Res} {v : Int32} {f1 f3 : Nat → Nat → Int32} (hc : C h = some (.ok (.int v), wI h f1)) (F1 : ∀ a z, ¬(227 ≤ a ∧ a < 239) → f1 a z = HI h a z) (hm : M (wI h f1) = some (.ok (.int v), wI h f3)) (F3 : ∀ a z, ¬(a = 243 ∨ 246 ≤ a ∧ a < 250 ∨ a = 252 ∨ a = 241 ∧ 16 ≤ z) → f3 a z = f1 a z) : SA N xs s y h C M := ⟨v, wI h f1, wI h f3, hc, K.k9, hm, K.scr (Se.refl h) (fun a z q1 q2 => (F3 a z q2).trans (F1 a z q1))⟩
theorem LWc.rm1 (K : LWc N xs s y h b m H sv oe oq x n L) {f1 : Nat → Nat → Int32} (F1 : ∀ a z, ¬(227 ≤ a ∧ a < 239) → f1 a z = HI h a z) : RM (f1 242) (kA b) (kD b) := K.rm.cong (fun k hk => F1 242 k (by decide))
theorem a105 (K : LWc N xs s y h b m H sv oe oq x n L) : SA N xs s y h (CL 105 [.ref 31]) (CL 299 [.ref 241]) := by
  obtain ⟨⟨z, f1, c1, c2, c3, c4⟩, -⟩ := groupsC_ok K.rr K.gr K.rk
  have F1 : ∀ a z, ¬(227 ≤ a ∧ a < 239) → f1 a z = HI h a z := fun a z q => c4 a z (by omega)
  obtain ⟨w, f3, m1, m2, m3, m4, m5, m6⟩ := groupsM_ok (h := wI h f1) K.md (K.rm1 F1)
  rw [NK_eq m3 c2] at m1
  exact K.sA c1 F1 m1 (fun a z q => m6 a z (by omega) (by omega))
theorem a108 (K : LWc N xs s y h b m H sv oe oq x n L) : SA N xs s y h (CL 108 [.ref 31]) (CL 300 [.ref 241]) := by
  obtain ⟨-, z, f1, c1, c2, c3, c4⟩ := groupsC_ok K.rr K.gr K.rk
  have F1 : ∀ a z, ¬(227 ≤ a ∧ a < 239) → f1 a z = HI h a z := fun a z q => c4 a z (by omega)
  obtain ⟨w, f3, m1, m2, m3, m4, m5, m6⟩ := groupsM_ok (h := wI h f1) K.md (K.rm1 F1)
  rw [NK_eq m3 c2] at m2
  exact K.sA c1 F1 m2 (fun a z q => m6 a z (by omega) (by omega))
theorem a123 (K : LWc N xs s y h b m H sv oe oq x n L) (hy : y < 1000000000) : SA N xs s y h (CL 123 [.ref 31]) (CL 315 [.ref 241]) := by
  obtain ⟨f1, c1, c2⟩ := consistent_ok K.rr K.mg K.gr K.rk K.ok.1.2 hy K.ok.1.1
  have m1 := consistentM_ok (h := wI h f1) K.md
  exact K.sA c1 c2 m1 (fun a z q => tH_ne (wI h f1) 0 (by omega))
end CA
