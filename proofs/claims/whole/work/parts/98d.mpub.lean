/-! THE REFERENCE: its public changes -/
noncomputable def pubM (j : Nat) (x k a : Int32) : Hp → Res := match j with
  | 0 => CL 214 [.ref 241, .int x, .int k, .int a]
  | 1 => CL 219 [.ref 241, .int x, .int k, .int a]
  | 2 => CL 229 [.ref 241]
  | 3 => CL 231 [.ref 241]
  | 4 => CL 238 [.ref 241, .int x, .int k]
  | 5 => CL 240 [.ref 241, .int x, .int k]
  | _ => CL 243 [.ref 241, .int a]
theorem pubM_eq {j : Nat} (hj : j < 7) (x k a : Int32) (h : Hp) : pubM j x k a h = cond (ckK h 241 9) (bV (CL 205 [.ref 241] h) (fun h1 => cond (ckK h1 241 9) (bI (opM j x k a h1) (fun x3 h2 => cond (ckK h2 241 9) (bI (CL 213 [.ref 241, .int x3] h2) (fun x5 h4 => some (.ok (.int x5), h4)) thr) none) thr) none) thr) none := by
  have hj' : j = 0 ∨ j = 1 ∨ j = 2 ∨ j = 3 ∨ j = 4 ∨ j = 5 ∨ j = 6 := by omega
  rcases hj' with rfl | rfl | rfl | rfl | rfl | rfl | rfl
  · exact e214 ..
  · exact e219 ..
  · exact e229 ..
  · exact e231 ..
  · exact e238 ..
  · exact e240 ..
  · exact e243 ..
/-- what a change of the reference leaves as it was -/
def FC (f f' : Nat → Nat → Int32) : Prop := ∀ a x, a ≠ 242 → a ≠ 243 → a ≠ 245 → ¬(a = 241 ∧ (x = 16 ∨ x = 5)) → f' a x = f a x
section MC
variable {h : Hp} {b : Bk}
theorem RN.beg {f : Nat → Nat → Int32} (R : RN (f 242) b) : RN (bcF f 242 0 243 0 169 242) b ∧ RN (bcF f 242 0 243 0 169 243) b := by
  refine ⟨R.cong (fun k hk => bcF_o (by decide) k), R.cong (fun k hk => ?_)⟩
  have := bcF_t (f := f) (src := 242) (a := 0) (dst := 243) (c := 0) hk
  rw [Nat.zero_add] at this
  exact this
theorem pubM_go (S : MdS h) (R : RN (HI h 242) b) {y : Nat} (hB : Bd b y) (hy : y < 1000000000) {m : Nat} {H : HF} (G : RG (HI h) m H) {j s k : Nat} (hj : j < 7) (hs : s < 3) (hk : k < 1000) (a : Int32) (hf : flB b j s k a = 0) : ∃ f', pubM j (nI (97 + s)) (nI k) a h = some (.ok (.int (nI (ansB b j s k a.toNatClampNeg))), wI h f') ∧ RN (f' 242) (effB b j s k a.toNatClampNeg) ∧ RG f' (if m < 8 then m + 1 else 8) (puH b H) ∧ f' 241 16 = nI 0 ∧ FC (HI h) f' := by
  have hb := begins_ok S
  obtain ⟨R1, R2⟩ := R.beg
  obtain ⟨g, g1, g2, g3, g4⟩ := opM_go (S.wI (bcF (HI h) 242 0 243 0 169)) R1 hB hy hj hs hk a hf
  rw [wI_wI] at g1
  rw [HI_wI] at g4
  have R3 : RN (g 243) b := R2.cong (fun k hk => g4 243 k (by decide) (by omega))
  have G3 : RG g m H := ⟨G.1, ((g4 241 5 (by decide) (by omega)).trans (bcF_o (by decide) 5)).trans G.2.1, fun i hi => (G.2.2 i hi).cong (fun k hk => (g4 245 _ (by decide) (by omega)).trans (bcF_o (by decide) _))⟩
  obtain ⟨f', f1, f2, f3⟩ := ends_t (S.wI g) (nI (ansB b j s k a.toNatClampNeg)) g3 R3 G3
  rw [wI_wI] at f1
  rw [HI_wI] at f3
  refine ⟨f', ?_, g2.cong (fun k hk => f3 242 k (by decide) (by omega)), f2, (f3 241 16 (by decide) (by omega)).trans g3, fun a x q1 q2 q3 q4 => ?_⟩
  · rw [pubM_eq hj]
    simp (disch := omega) only [S.f, hb, g1, f1, cond_true, cond_false, bI_ok, bI_er, bV_ok, bV_er, bR_ok, bR_er, bD_ok, bD_er, bF_ok, bF_er, thr_ap, cl_nI, lt_nI, le_nI, eq_nI, m1_lt, nI_m1, m1_nI, nI_lt_m1, add_nI, sub_nI, addm_nI, z_addm, z_subm, mul_nI, fit1_0, fit1_1, fit2_n, HI_wI, HK_wI, HL_wI, HR_wI, ckK_wI, chI_wI, sI_wI, wI_wI, lz0, lz1, lz2, lz3, lz4, lz5, lz6, lz7, lz8, lz9, lz10, lz12, lz13, lz16, lz17, lz20, lz21, lz23, lz26, lz30, lz32, lz35, lz40, lz45, lz48, lz57, lz58, lz59, lz60, lz61, lz63, lz64, lz97, lz99, lz100, lz110, lz111, lz126, lz129, lz132, lz133, lz166, lz169, lz255, lz999, lz1183, lz1800, Nat.reduceAdd, Nat.reduceLT, Nat.reduceEqDiff, Nat.not_lt_zero, Nat.lt_irrefl, ↓reduceIte, Nat.zero_add, Nat.add_zero, ne_eq, not_true_eq_false, not_false_eq_true, reduceCtorEq]
  · rw [f3 a x q3 (by omega), g4 a x q1 (by omega)]
    exact bcF_o q2 x
theorem pubM_stop (S : MdS h) (R : RN (HI h 242) b) {m : Nat} {H : HF} (G : RG (HI h) m H) {j : Nat} (hj : j < 7) (x k a : Int32) {t : Nat} (ht : 0 < t) (ht2 : t < 4) (hop : ∀ g, RN (g 242) b → ∃ v f', opM j x k a (wI h g) = some (.ok (.int v), wI h f') ∧ f' 241 16 = nI t ∧ FM g f') : ∃ f', pubM j x k a h = some (.ok (.int (nI 0)), wI h f') ∧ RN (f' 242) b ∧ RG f' m H ∧ f' 241 16 = nI t ∧ FC (HI h) f' := by
  have hb := begins_ok S
  obtain ⟨R1, R2⟩ := R.beg
  obtain ⟨v, g, g1, g3, g4⟩ := hop _ R1
  have R3 : RN (g 243) b := R2.cong (fun k hk => g4 243 k (by decide) (by omega))
  obtain ⟨f', f1, f2, f3⟩ := ends_f (S.wI g) v ht ht2 g3 R3
  rw [wI_wI] at f1
  rw [HI_wI] at f3
  have hz : ∀ a x, a ≠ 242 → a ≠ 243 → ¬(a = 241 ∧ x = 16) → f' a x = HI h a x := fun a x q1 q2 q3 => by
    rw [f3 a x q1, g4 a x q1 q3]
    exact bcF_o q2 x
  refine ⟨f', ?_, f2, ⟨G.1, (hz 241 5 (by decide) (by decide) (by omega)).trans G.2.1, fun i hi => (G.2.2 i hi).cong (fun k hk => hz 245 _ (by decide) (by decide) (by omega))⟩, (f3 241 16 (by decide)).trans g3, fun a x q1 q2 q3 q4 => hz a x q1 q2 (by omega)⟩
  rw [pubM_eq hj]
  simp (disch := omega) only [S.f, hb, g1, f1, cond_true, cond_false, bI_ok, bI_er, bV_ok, bV_er, bR_ok, bR_er, bD_ok, bD_er, bF_ok, bF_er, thr_ap, cl_nI, lt_nI, le_nI, eq_nI, m1_lt, nI_m1, m1_nI, nI_lt_m1, add_nI, sub_nI, addm_nI, z_addm, z_subm, mul_nI, fit1_0, fit1_1, fit2_n, HI_wI, HK_wI, HL_wI, HR_wI, ckK_wI, chI_wI, sI_wI, wI_wI, lz0, lz1, lz2, lz3, lz4, lz5, lz6, lz7, lz8, lz9, lz10, lz12, lz13, lz16, lz17, lz20, lz21, lz23, lz26, lz30, lz32, lz35, lz40, lz45, lz48, lz57, lz58, lz59, lz60, lz61, lz63, lz64, lz97, lz99, lz100, lz110, lz111, lz126, lz129, lz132, lz133, lz166, lz169, lz255, lz999, lz1183, lz1800, Nat.reduceAdd, Nat.reduceLT, Nat.reduceEqDiff, Nat.not_lt_zero, Nat.lt_irrefl, ↓reduceIte, Nat.zero_add, Nat.add_zero, ne_eq, not_true_eq_false, not_false_eq_true, reduceCtorEq]
theorem pubM_flt (S : MdS h) (R : RN (HI h 242) b) {m : Nat} {H : HF} (G : RG (HI h) m H) {j s k : Nat} (hj : j < 7) (hs : s < 3) (hk : k < 1000) (a : Int32) (hf : flB b j s k a ≠ 0) : ∃ f', pubM j (nI (97 + s)) (nI k) a h = some (.ok (.int (nI 0)), wI h f') ∧ RN (f' 242) b ∧ RG f' m H ∧ f' 241 16 = nI (thM j (flB b j s k a)) ∧ FC (HI h) f' := by
  obtain ⟨t1, t2⟩ := thM_pos (j := j) hf (flB_lt b j s k a)
  refine pubM_stop S R G hj _ _ _ t1 t2 (fun g Rg => ?_)
  exact opM_flt (S.wI g) Rg hj hs hk a hf
theorem pubM_bad (S : MdS h) (R : RN (HI h 242) b) {m : Nat} {H : HF} (G : RG (HI h) m H) {j : Nat} (hj : j = 0 ∨ j = 1 ∨ j = 4 ∨ j = 5) (x k a : Int32) (hbad : inr 97 99 x = false ∨ inr 0 999 k = false) : ∃ f', pubM j x k a h = some (.ok (.int (nI 0)), wI h f') ∧ RN (f' 242) b ∧ RG f' m H ∧ f' 241 16 = nI 1 ∧ FC (HI h) f' := by
  refine pubM_stop S R G (by omega) _ _ _ (by decide) (by decide) (fun g Rg => ?_)
  exact opM_bad (S.wI g) Rg hj x k a hbad
end MC
