/-! THE CALLS of form C: a double, a float -/
section CD
variable {N : Nat} {xs : Nat → Int32} {s y : Nat} {h : Hp} {b : Bk} {m : Nat} {H : HF} {sv : Option Bk} {oe oq : Option Nat} {x : Nat → Nat} {n : Nat} {L : List Nat}
theorem chd {h : Hp} (k : HK h 254 = 105) (l : HL h 254 = 1) : chI h 254 105 (0 : Int32) = true := chI_nI k l (by decide) (by decide)
theorem w312_ok {h h1 : Hp} {v : UInt64} (hk : HK h 31 = 8) (hc : CL 138 [.ref 31] h = some (.ok (.double v), h1)) (k : HK h1 254 = 105 ∧ HL h1 254 = 1) : CL 312 [.ref 31, .ref 254] h = some (.ok (.int (nI 0)), sD h1 254 0 v) := by
  rw [e312, ck_of hk, hc, bD_ok, chd k.1 k.2]
  rfl
theorem w312_5 {h h1 : Hp} (hk : HK h 31 = 8) (hc : CL 138 [.ref 31] h = some (.error 5, h1)) : CL 312 [.ref 31, .ref 254] h = some (.ok (.int (nI 1)), h1) := by
  rw [e312, ck_of hk, hc]
  rfl
theorem w189_ok {h h1 : Hp} {v : UInt32} (hk : HK h 31 = 8) (hc : CL 59 [.ref 31] h = some (.ok (.float v), h1)) (q : FP.f2d v &&& 0x7fffffffffffffff ≤ 0x7ff0000000000000) (k : HK h1 254 = 105 ∧ HL h1 254 = 1) : CL 189 [.ref 31, .ref 254] h = some (.ok (.int (nI 0)), sD h1 254 0 (FP.f2d v)) := by
  rw [e189, ck_of hk, hc, bF_ok, if_pos q, chd k.1 k.2]
  rfl
theorem w189_5 {h h1 : Hp} (hk : HK h 31 = 8) (hc : CL 59 [.ref 31] h = some (.error 5, h1)) : CL 189 [.ref 31, .ref 254] h = some (.ok (.int (nI 1)), h1) := by
  rw [e189, ck_of hk, hc]
  rfl
/-- a call that answers a double -/
def SD (N : Nat) (xs : Nat → Int32) (s y : Nat) (h : Hp) : Prop := ∃ t w h1 h3, CL 312 [.ref 31, .ref 254] h = some (.ok (.int (nI t)), h1) ∧ HK h1 241 = 9 ∧ CL 313 [.ref 241] h1 = some (.ok (.double w), h3) ∧ t < 4 ∧ HI h3 241 16 = nI t ∧ (t = 0 → HD h3 254 0 = w ∧ FP.dcmp w w = some .eq) ∧ LW N xs (s + 1) (y + 6000) h3
def SF (N : Nat) (xs : Nat → Int32) (s y : Nat) (h : Hp) : Prop := ∃ t w h1 h3, CL 189 [.ref 31, .ref 254] h = some (.ok (.int (nI t)), h1) ∧ HK h1 241 = 9 ∧ CL 314 [.ref 241] h1 = some (.ok (.float w), h3) ∧ t < 4 ∧ HI h3 241 16 = nI t ∧ (t = 0 → HD h3 254 0 = FP.f2d w ∧ FP.f2d w &&& 0x7fffffffffffffff ≤ 0x7ff0000000000000 ∧ FP.dcmp (FP.f2d w) (FP.f2d w) = some .eq) ∧ LW N xs (s + 1) (y + 6000) h3
theorem d312 (K : LWc N xs s y h b m H sv oe oq x n L) : SD N xs s y h := by
  rcases Nat.eq_zero_or_pos (tot (kA b)) with h0 | h0
  · obtain ⟨w, hm⟩ := meanM_f (h := hthr h) K.md K.rn h0
    exact ⟨1, w, _, _, w312_5 K.k8 (mean_f K.q K.rk h0), K.k9, hm, by decide, tH_at _ 1, fun e => absurd e (by decide), K.scr (Se.thr h) (fun a z q1 q2 => tH_ne _ 1 (by omega))⟩
  · have m30 := K.rm.m30
    exact ⟨0, _, _, _, w312_ok K.k8 (mean_t K.q K.rk h0 m30 (allA_le K.rm)) K.od, K.k9, meanM_t (h := sD h 254 0 _) K.md K.rn h0, by decide, tH_at _ 0, fun _ => ⟨tD_at _ _ _, cmp_self (dv_nn (by omega) (by omega))⟩, K.scr (Se.refl h) (fun a z q1 q2 => tH_ne _ 0 (by omega))⟩
theorem f189 (K : LWc N xs s y h b m H sv oe oq x n L) : SF N xs s y h := by
  have hk := nk_tot K.rm
  have hl := nkA_le (kA b)
  have m30 := K.rm.m30
  rcases Nat.eq_zero_or_pos (tot (kA b)) with h0 | h0
  · obtain ⟨w, hm⟩ := shareM_f (h := hthr h) K.md K.rn h0
    exact ⟨1, w, _, _, w189_5 K.k8 (share_f K.q K.rk (hk.mpr h0)), K.k9, hm, by decide, tH_at _ 1, fun e => absurd e (by decide), K.scr (Se.thr h) (fun a z q1 q2 => tH_ne _ 1 (by omega))⟩
  · have h1 : 0 < nkA (kA b) := by
      rcases Nat.eq_zero_or_pos (nkA (kA b)) with z | z
      · have := hk.mp z
        omega
      · exact z
    have f1 := fv_nn (a := cwA (kA b) 99) (m := nkA (kA b)) (by omega) (by omega)
    have f2 := wd_nn f1
    have q : FP.f2d (UInt32.ofNat (fvN (cwA (kA b) 99) (nkA (kA b)))) &&& 0x7fffffffffffffff ≤ 0x7ff0000000000000 := by
      rw [wd_eq f1]
      exact of_eq_true (ok64 f2)
    exact ⟨0, _, _, _, w189_ok K.k8 (share_t K.q K.rk h1) q K.od, K.k9, shareM_t (h := sD h 254 0 _) K.md K.rn h0, by decide, tH_at _ 0, fun _ => ⟨tD_at _ _ _, q, by rw [wd_eq f1]; exact cmp_self f2⟩, K.scr (Se.refl h) (fun a z q1 q2 => tH_ne _ 0 (by omega))⟩
end CD
