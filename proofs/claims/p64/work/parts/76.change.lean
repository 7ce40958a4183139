/-! THE HISTORY, AND A CHANGE -/
theorem div_nI {a b : Nat} (ha : a < 2147483648) (hb : b < 2147483648) : nI a / nI b = nI (a / b) := by
  have h1 : a / b ≤ a := Nat.div_le_self a b
  apply Int32.toInt_inj.mp
  rw [Int32.toInt_div, nI_toInt ha, nI_toInt hb, nI_toInt (by omega), ← Int.ofNat_tdiv]
  generalize a / b = q at *
  exact Int.bmod_eq_of_le (by omega) (by omega)
theorem mod_nI {a b : Nat} (ha : a < 2147483648) (hb : b < 2147483648) : nI a - nI a / nI b * nI b = nI (a % b) := by
  have h2 : a / b * b ≤ a := Nat.div_mul_le_self a b
  rw [div_nI ha hb, mul_nI, sub_nI h2]
  congr 1
  have := Nat.div_add_mod a b
  rw [Nat.mul_comm] at this
  omega
abbrev HF : Type := Nat → Bk
def RrS (h : Hp) : Prop := HK h 31 = 8 ∧ HR h 31 0 = 32 ∧ HR h 31 1 = 49 ∧ HR h 31 2 = 66 ∧ HR h 31 3 = 83 ∧ HR h 31 4 = 221 ∧ HR h 31 5 = 227 ∧ HR h 31 6 = 235 ∧ HR h 31 7 = 239 ∧ BkS h 32 ∧ BkS h 49 ∧ BkS h 66 ∧ (HK h 83 = 4 ∧ HR h 83 0 = 84) ∧ ((Nat.beq (HK h 84) 106 || Nat.beq (HK h 84) 107) = true ∧ HL h 84 = 8) ∧ ∀ i, i < 8 → HR h 84 i = 85 + 17 * i ∧ BkS h (85 + 17 * i)
/-- the history: m books, the newest one first -/
def RH (f : Nat → Nat → Int32) (m : Nat) (H : HF) : Prop := m ≤ 8 ∧ f 83 2 = nI m ∧ ∃ w, w < 8 ∧ f 83 1 = nI w ∧ ∀ i, i < m → RK f (85 + 17 * ((w + 8 - i) % 8)) (H i)
def puH (b : Bk) (H : HF) : HF := fun i => match i with
  | 0 => b
  | i + 1 => H i
def poH (H : HF) : HF := fun i => H (i + 1)
section RR
variable {h : Hp}
theorem RrS.wI (S : RrS h) (f : Nat → Nat → Int32) : RrS (wI h f) := S
theorem RrS.f (S : RrS h) : ckK h 31 8 = true ∧ HR h 31 0 = 32 ∧ HR h 31 1 = 49 ∧ HR h 31 2 = 66 ∧ HR h 31 3 = 83 ∧ HR h 31 4 = 221 ∧ HR h 31 5 = 227 ∧ HR h 31 6 = 235 ∧ HR h 31 7 = 239 := ⟨ck_of S.1, S.2.1, S.2.2.1, S.2.2.2.1, S.2.2.2.2.1, S.2.2.2.2.2.1, S.2.2.2.2.2.2.1, S.2.2.2.2.2.2.2.1, S.2.2.2.2.2.2.2.2.1⟩
theorem RrS.bk (S : RrS h) : BkS h 32 := S.2.2.2.2.2.2.2.2.2.1
theorem RrS.br (S : RrS h) : BkS h 49 := S.2.2.2.2.2.2.2.2.2.2.1
theorem RrS.sv (S : RrS h) : BkS h 66 := S.2.2.2.2.2.2.2.2.2.2.2.1
theorem RrS.hi (S : RrS h) : ckK h 83 4 = true ∧ HR h 83 0 = 84 := ⟨ck_of S.2.2.2.2.2.2.2.2.2.2.2.2.1.1, S.2.2.2.2.2.2.2.2.2.2.2.2.1.2⟩
theorem RrS.ring (S : RrS h) {i : Nat} (hi : i < 8) : ((Nat.beq (HK h 84) 106 || Nat.beq (HK h 84) 107) && inb (nI i) (HL h 84)) = true ∧ HR h 84 i = 85 + 17 * i := by
  refine ⟨?_, (S.2.2.2.2.2.2.2.2.2.2.2.2.2.2 i hi).1⟩
  rw [S.2.2.2.2.2.2.2.2.2.2.2.2.2.1.1, S.2.2.2.2.2.2.2.2.2.2.2.2.2.1.2, inb_nI hi (by decide)]
  rfl
theorem RrS.kb (S : RrS h) {i : Nat} (hi : i < 8) : BkS h (85 + 17 * i) := (S.2.2.2.2.2.2.2.2.2.2.2.2.2.2 i hi).2
theorem RrS.ks (S : RrS h) : ckK h 32 2 = true ∧ ckK h 49 2 = true ∧ ckK h 66 2 = true := ⟨S.bk.f.1, S.br.f.1, S.sv.f.1⟩
theorem RH.fr {f g : Nat → Nat → Int32} {m : Nat} {H : HF} (R : RH f m H) (h : ∀ a x, 83 ≤ a → a < 221 → g a x = f a x) : RH g m H := by
  obtain ⟨h1, h2, w, h3, h4, h5⟩ := R
  refine ⟨h1, (h _ _ (by decide) (by decide)).trans h2, w, h3, (h _ _ (by decide) (by decide)).trans h4, fun i hi => ?_⟩
  have := h5 i hi
  have hw : (w + 8 - i) % 8 < 8 := Nat.mod_lt _ (by decide)
  refine ⟨this.t.cong (fun j x hj => h _ _ (by omega) (by omega)), this.q.cong (fun j x hj => h _ _ (by omega) (by omega)), fun s hs => ?_, fun j hj => ?_, ?_⟩
  · rw [h _ s (by omega) (by omega)]
    exact this.tr hs
  · rw [h _ j (by omega) (by omega)]
    exact this.tt hj
  · rw [h _ 4 (by omega) (by omega)]
    exact this.y
/-- book C kept -/
theorem keep_ok (S : RrS h) {C : Nat} (hC : C = 32 ∨ C = 49) {b : Bk} (R : RK (HI h) C b) {m : Nat} {H : HF} (RHh : RH (HI h) m H) : ∃ f', CL 40 [.ref 83, .ref C] h = some (.ok .null, wI h f') ∧ RH f' (if m < 8 then m + 1 else 8) (puH b H) ∧ Fr 83 221 (HI h) f' := by
  obtain ⟨m8, hm, w, hw, hnw, hk⟩ := RHh
  have hw' : (w + 1) % 8 < 8 := Nat.mod_lt _ (by decide)
  have hmod := mod_nI (a := w + 1) (b := 8) (by omega) (by decide)
  have BC : BkS h C := by
    rcases hC with rfl | rfl
    · exact S.bk
    · exact S.br
  obtain ⟨g, g1, g2, g3⟩ := cpBook_ok ((S.kb hw').wI (u2 (HI h) 83 1 (nI ((w + 1) % 8)))) (BC.wI (u2 (HI h) 83 1 (nI ((w + 1) % 8)))) (by omega)
  rw [wI_wI] at g1
  rw [HI_wI] at g2 g3
  have hfr : Fr 83 221 (HI h) (u2 (HI h) 83 1 (nI ((w + 1) % 8))) := Fr.rf.u2 (by decide) (by decide)
  have hRK := g2 b (R.fr hfr (by omega))
  refine ⟨u2 g 83 2 (nI (if m < 8 then m + 1 else 8)), ?_, ⟨?_, w2_eq _ _ _ _, (w + 1) % 8, hw', ?_, fun i hi => ?_⟩, ?_⟩
  · have hg2 : g 83 2 = nI m := (g3 _ _ (by omega)).trans ((w2_ne (by decide)).trans hm)
    have hne : ¬((8 : Int32) = 0) := by decide
    have hks := (S.kb hw').f.1
    rw [e40]
    by_cases q : m < 8
    · simp (disch := omega) only [S.hi, hnw, hne, w2_eq, w2_ne, hmod, S.ring hw', hks, g1, hg2, q, show ¬(8 < m + 1) by omega, cond_true, cond_false, bI_ok, bI_er, bV_ok, bV_er, bR_ok, bR_er, bD_ok, bD_er, bF_ok, bF_er, thr_ap, cl_nI, lt_nI, le_nI, eq_nI, m1_lt, nI_m1, m1_nI, nI_lt_m1, add_nI, sub_nI, addm_nI, z_addm, z_subm, mul_nI, fit1_0, fit1_1, fit2_n, HI_wI, HK_wI, HL_wI, HR_wI, ckK_wI, chI_wI, sI_wI, wI_wI, lz0, lz1, lz2, lz3, lz4, lz5, lz6, lz7, lz8, lz9, lz10, lz12, lz13, lz16, lz17, lz20, lz21, lz23, lz26, lz30, lz32, lz35, lz40, lz45, lz48, lz57, lz58, lz59, lz60, lz61, lz63, lz64, lz97, lz99, lz100, lz110, lz111, lz126, lz129, lz132, lz133, lz166, lz169, lz255, lz999, lz1183, lz1800, Nat.reduceAdd, Nat.reduceLT, Nat.reduceEqDiff, Nat.not_lt_zero, Nat.lt_irrefl, ↓reduceIte, Nat.zero_add, Nat.add_zero, ne_eq, not_true_eq_false, not_false_eq_true, reduceCtorEq]
    · simp (disch := omega) only [S.hi, hnw, hne, w2_eq, w2_ne, hmod, S.ring hw', hks, g1, hg2, q, show 8 < m + 1 by omega, cond_true, cond_false, bI_ok, bI_er, bV_ok, bV_er, bR_ok, bR_er, bD_ok, bD_er, bF_ok, bF_er, thr_ap, cl_nI, lt_nI, le_nI, eq_nI, m1_lt, nI_m1, m1_nI, nI_lt_m1, add_nI, sub_nI, addm_nI, z_addm, z_subm, mul_nI, fit1_0, fit1_1, fit2_n, HI_wI, HK_wI, HL_wI, HR_wI, ckK_wI, chI_wI, sI_wI, wI_wI, lz0, lz1, lz2, lz3, lz4, lz5, lz6, lz7, lz8, lz9, lz10, lz12, lz13, lz16, lz17, lz20, lz21, lz23, lz26, lz30, lz32, lz35, lz40, lz45, lz48, lz57, lz58, lz59, lz60, lz61, lz63, lz64, lz97, lz99, lz100, lz110, lz111, lz126, lz129, lz132, lz133, lz166, lz169, lz255, lz999, lz1183, lz1800, Nat.reduceAdd, Nat.reduceLT, Nat.reduceEqDiff, Nat.not_lt_zero, Nat.lt_irrefl, ↓reduceIte, Nat.zero_add, Nat.add_zero, ne_eq, not_true_eq_false, not_false_eq_true, reduceCtorEq]
  · split <;> omega
  · rw [w2_ne (by decide), g3 83 1 (by omega)]
    exact w2_eq _ _ _ _
  · have hfr2 : Fr 83 85 g (u2 g 83 2 (nI (if m < 8 then m + 1 else 8))) := Fr.rf.u2 (by decide) (by decide)
    cases i with
    | zero =>
      rw [show ((w + 1) % 8 + 8 - 0) % 8 = (w + 1) % 8 by omega]
      exact hRK.fr hfr2 (by omega)
    | succ i =>
      have him : i < m := by
        split at hi <;> omega
      have hi7 : i < 7 := by
        split at hi <;> omega
      have he : ((w + 1) % 8 + 8 - (i + 1)) % 8 = (w + 8 - i) % 8 := by omega
      rw [he]
      have hne : (w + 8 - i) % 8 ≠ (w + 1) % 8 := by omega
      have hlt : (w + 8 - i) % 8 < 8 := Nat.mod_lt _ (by decide)
      refine RK.fr (RK.fr (RK.fr (hk i him) (Fr.u2 (lo := 83) (hi := 85) Fr.rf (by decide) (by decide)) (by omega)) g3 (by omega)) hfr2 (by omega)
  · intro a x ha
    rw [w2_ne (by omega), g3 a x (by omega), w2_ne (by omega)]
def xkF (n : Nat) : Nat := if n = 2 then 4 else if n = 3 then 2 else 1
theorem change_bad (S : RrS h) (j x k a : Int32) (hx : inr 97 99 x = false ∨ inr 0 999 k = false) : CL 54 [.ref 31, .int j, .int x, .int k, .int a] h = some (.error 1, hthr h) := by
  rw [e54]
  simp (disch := omega) only [S.f, S.ks, faultOf_bad j x k a hx, e36, cond_true, cond_false, bI_ok, bI_er, bV_ok, bV_er, bR_ok, bR_er, bD_ok, bD_er, bF_ok, bF_er, thr_ap, cl_nI, lt_nI, le_nI, eq_nI, m1_lt, nI_m1, m1_nI, nI_lt_m1, add_nI, sub_nI, addm_nI, z_addm, z_subm, mul_nI, fit1_0, fit1_1, fit2_n, HI_wI, HK_wI, HL_wI, HR_wI, ckK_wI, chI_wI, sI_wI, wI_wI, lz0, lz1, lz2, lz3, lz4, lz5, lz6, lz7, lz8, lz9, lz10, lz12, lz13, lz16, lz17, lz20, lz21, lz23, lz26, lz30, lz32, lz35, lz40, lz45, lz48, lz57, lz58, lz59, lz60, lz61, lz63, lz64, lz97, lz99, lz100, lz110, lz111, lz126, lz129, lz132, lz133, lz166, lz169, lz255, lz999, lz1183, lz1800, Nat.reduceAdd, Nat.reduceLT, Nat.reduceEqDiff, Nat.not_lt_zero, Nat.lt_irrefl, ↓reduceIte, Nat.zero_add, Nat.add_zero, ne_eq, not_true_eq_false, not_false_eq_true, reduceCtorEq]
theorem flB_lt (b : Bk) (j s k : Nat) (a : Int32) : flB b j s k a < 4 := by
  unfold flB
  repeat' split
  all_goals omega
theorem change_flt (S : RrS h) {b : Bk} (R : RK (HI h) 32 b) {j s k : Nat} (hj : j < 7) (hs : s < 3) (hk : k < 1000) (a : Int32) (hf : flB b j s k a ≠ 0) : CL 54 [.ref 31, .int (nI j), .int (nI (97 + s)), .int (nI k), .int a] h = some (.error (xkF (flB b j s k a)), hthr h) := by
  have h4 := flB_lt b j s k a
  have h1 := faultOf_ok S.bk R hj hs hk a
  rw [e54]
  generalize flB b j s k a = q at *
  have hq : q = 1 ∨ q = 2 ∨ q = 3 := by omega
  rcases hq with rfl | rfl | rfl <;> simp (disch := omega) only [S.f, S.ks, h1, e36, xkF, Nat.succ_ne_self, cond_true, cond_false, bI_ok, bI_er, bV_ok, bV_er, bR_ok, bR_er, bD_ok, bD_er, bF_ok, bF_er, thr_ap, cl_nI, lt_nI, le_nI, eq_nI, m1_lt, nI_m1, m1_nI, nI_lt_m1, add_nI, sub_nI, addm_nI, z_addm, z_subm, mul_nI, fit1_0, fit1_1, fit2_n, HI_wI, HK_wI, HL_wI, HR_wI, ckK_wI, chI_wI, sI_wI, wI_wI, lz0, lz1, lz2, lz3, lz4, lz5, lz6, lz7, lz8, lz9, lz10, lz12, lz13, lz16, lz17, lz20, lz21, lz23, lz26, lz30, lz32, lz35, lz40, lz45, lz48, lz57, lz58, lz59, lz60, lz61, lz63, lz64, lz97, lz99, lz100, lz110, lz111, lz126, lz129, lz132, lz133, lz166, lz169, lz255, lz999, lz1183, lz1800, Nat.reduceAdd, Nat.reduceLT, Nat.reduceEqDiff, Nat.not_lt_zero, Nat.lt_irrefl, ↓reduceIte, Nat.zero_add, Nat.add_zero, ne_eq, not_true_eq_false, not_false_eq_true, reduceCtorEq]
theorem change_go (S : RrS h) {b : Bk} (R : RK (HI h) 32 b) {y : Nat} (hB : Bd b y) (hy : y < 1000000000) {m : Nat} {H : HF} (RHh : RH (HI h) m H) {j s k : Nat} (hj : j < 7) (hs : s < 3) (hk : k < 1000) (a : Int32) (hf : flB b j s k a = 0) : ∃ f', CL 54 [.ref 31, .int (nI j), .int (nI (97 + s)), .int (nI k), .int a] h = some (.ok (.int (nI (ansB b j s k a.toNatClampNeg))), wI h f') ∧ RK f' 32 (effB b j s k a.toNatClampNeg) ∧ RH f' (if m < 8 then m + 1 else 8) (puH b H) ∧ ∀ a x, ¬(32 ≤ a ∧ a < 49) → ¬(83 ≤ a ∧ a < 221) → f' a x = HI h a x := by
  have h1 := faultOf_ok S.bk R hj hs hk a
  rw [hf] at h1
  obtain ⟨g, g1, g2, g3⟩ := keep_ok S (.inl rfl) R RHh
  have R' := R.fr g3 (by omega)
  obtain ⟨f', f1, f2, f3⟩ := carryOut_ok (S.bk.wI g) R' hB hy hj hs hk a hf
  rw [wI_wI] at f1
  rw [HI_wI] at f3
  refine ⟨f', ?_, f2, g2.fr (fun a x h1 h2 => f3 a x (by omega)), fun a x h1 h2 => ?_⟩
  · rw [e54]
    have z1 : ¬(0 = 1) := by decide
    simp (disch := omega) only [S.f, S.ks, S.hi, h1, e36, g1, f1, cond_true, cond_false, bI_ok, bI_er, bV_ok, bV_er, bR_ok, bR_er, bD_ok, bD_er, bF_ok, bF_er, thr_ap, cl_nI, lt_nI, le_nI, eq_nI, m1_lt, nI_m1, m1_nI, nI_lt_m1, add_nI, sub_nI, addm_nI, z_addm, z_subm, mul_nI, fit1_0, fit1_1, fit2_n, HI_wI, HK_wI, HL_wI, HR_wI, ckK_wI, chI_wI, sI_wI, wI_wI, lz0, lz1, lz2, lz3, lz4, lz5, lz6, lz7, lz8, lz9, lz10, lz12, lz13, lz16, lz17, lz20, lz21, lz23, lz26, lz30, lz32, lz35, lz40, lz45, lz48, lz57, lz58, lz59, lz60, lz61, lz63, lz64, lz97, lz99, lz100, lz110, lz111, lz126, lz129, lz132, lz133, lz166, lz169, lz255, lz999, lz1183, lz1800, Nat.reduceAdd, Nat.reduceLT, Nat.reduceEqDiff, Nat.not_lt_zero, Nat.lt_irrefl, ↓reduceIte, Nat.zero_add, Nat.add_zero, ne_eq, not_true_eq_false, not_false_eq_true, reduceCtorEq]
  · rw [f3 a x (by omega)]
    exact g3 a x (by omega)
end RR
