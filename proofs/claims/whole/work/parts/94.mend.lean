/-! THE REFERENCE: the end of a change -/
section MC
variable {h : Hp} {b : Bk}
theorem ends_t (S : MdS h) (x : Int32) (hz : HI h 241 16 = nI 0) (Rb : RN (HI h 243) b) {m : Nat} {H : HF} (R : RG (HI h) m H) : ∃ f', CL 213 [.ref 241, .int x] h = some (.ok (.int x), wI h f') ∧ RG f' (if m < 8 then m + 1 else 8) (puH b H) ∧ ∀ a x, a ≠ 245 → ¬(a = 241 ∧ x = 5) → f' a x = HI h a x := by
  obtain ⟨f', f1, f2, f3⟩ := remembers_ok S Rb R
  refine ⟨f', ?_, f2, f3⟩
  rw [e213]
  simp (disch := omega) only [S.f, hz, f1, cond_true, cond_false, bI_ok, bI_er, bV_ok, bV_er, bR_ok, bR_er, bD_ok, bD_er, bF_ok, bF_er, thr_ap, cl_nI, lt_nI, le_nI, eq_nI, m1_lt, nI_m1, m1_nI, nI_lt_m1, add_nI, sub_nI, addm_nI, z_addm, z_subm, mul_nI, fit1_0, fit1_1, fit2_n, HI_wI, HK_wI, HL_wI, HR_wI, ckK_wI, chI_wI, sI_wI, wI_wI, lz0, lz1, lz2, lz3, lz4, lz5, lz6, lz7, lz8, lz9, lz10, lz12, lz13, lz16, lz17, lz20, lz21, lz23, lz26, lz30, lz32, lz35, lz40, lz45, lz48, lz57, lz58, lz59, lz60, lz61, lz63, lz64, lz97, lz99, lz100, lz110, lz111, lz126, lz129, lz132, lz133, lz166, lz169, lz255, lz999, lz1183, lz1800, Nat.reduceAdd, Nat.reduceLT, Nat.reduceEqDiff, Nat.not_lt_zero, Nat.lt_irrefl, ↓reduceIte, Nat.zero_add, Nat.add_zero, ne_eq, not_true_eq_false, not_false_eq_true, reduceCtorEq]
theorem ends_f (S : MdS h) (x : Int32) {t : Nat} (ht : 0 < t) (ht2 : t < 4) (hz : HI h 241 16 = nI t) (Rb : RN (HI h 243) b) : ∃ f', CL 213 [.ref 241, .int x] h = some (.ok (.int (nI 0)), wI h f') ∧ RN (f' 242) b ∧ ∀ a x, a ≠ 242 → f' a x = HI h a x := by
  have hc := copies_ok (h := h) (src := 243) (dst := 242) (a := 0) (c := 0) S.2.2.2.1 S.2.2.1 (by decide) (by decide) (by decide) (by decide) (by decide)
  refine ⟨bcF (HI h) 243 0 242 0 169, ?_, Rb.cong (fun k hk => ?_), fun a x ha => bcF_o ha x⟩
  · have hz2 : ¬(t = 0) := by omega
    rw [e213]
    simp (disch := omega) only [S.f, hz, hz2, hc, cond_true, cond_false, bI_ok, bI_er, bV_ok, bV_er, bR_ok, bR_er, bD_ok, bD_er, bF_ok, bF_er, thr_ap, cl_nI, lt_nI, le_nI, eq_nI, m1_lt, nI_m1, m1_nI, nI_lt_m1, add_nI, sub_nI, addm_nI, z_addm, z_subm, mul_nI, fit1_0, fit1_1, fit2_n, HI_wI, HK_wI, HL_wI, HR_wI, ckK_wI, chI_wI, sI_wI, wI_wI, lz0, lz1, lz2, lz3, lz4, lz5, lz6, lz7, lz8, lz9, lz10, lz12, lz13, lz16, lz17, lz20, lz21, lz23, lz26, lz30, lz32, lz35, lz40, lz45, lz48, lz57, lz58, lz59, lz60, lz61, lz63, lz64, lz97, lz99, lz100, lz110, lz111, lz126, lz129, lz132, lz133, lz166, lz169, lz255, lz999, lz1183, lz1800, Nat.reduceAdd, Nat.reduceLT, Nat.reduceEqDiff, Nat.not_lt_zero, Nat.lt_irrefl, ↓reduceIte, Nat.zero_add, Nat.add_zero, ne_eq, not_true_eq_false, not_false_eq_true, reduceCtorEq]
  · have := bcF_t (f := HI h) (src := 243) (a := 0) (dst := 242) (c := 0) hk
    rw [Nat.zero_add] at this
    exact this
end MC
