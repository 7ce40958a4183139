/-! THE CLASS: its line, and how it grows -/
def capc (c : Nat) : Nat := [16, 34, 70, 142].getD c 142
/-- the slots of the arrays made up to size c -/
def capt (c : Nat) : Nat := [0, 34, 104, 246].getD c 246
theorem capc_s : ∀ c, c < 3 → capc (c + 1) = 2 * capc c + 2 ∧ capt (c + 1) = capt c + capc (c + 1) := by decide
theorem capc_b : ∀ c, c ≤ 3 → 16 ≤ capc c ∧ capc c ≤ 142 := by decide
def LnS (h : Hp) (f : Nat → Nat → Int32) (L : List Nat) (c A : Nat) : Prop := (HK h 239 = 10) ∧ (HR h 239 0 = A) ∧ (HK h A = 102) ∧ (HL h A = capc c) ∧ (A < HN h) ∧ (A = 240 ∨ 241 ≤ A) ∧ (241 ≤ HN h) ∧ (f 239 1 = nI 0) ∧ (f 239 3 = nI L.length) ∧ (L.length ≤ capc c) ∧ (c ≤ 3) ∧ (∀ i, i < capc c → ∃ v, v < 128 ∧ f A i = nI v) ∧ (∀ i, i < L.length → f A i = nI (L.getD i 0))
theorem LnS.k {h : Hp} {f : Nat → Nat → Int32} {L : List Nat} {c A : Nat} (S : LnS h f L c A) : HK h 239 = 10 := S.1
theorem LnS.r {h : Hp} {f : Nat → Nat → Int32} {L : List Nat} {c A : Nat} (S : LnS h f L c A) : HR h 239 0 = A := S.2.1
theorem LnS.ka {h : Hp} {f : Nat → Nat → Int32} {L : List Nat} {c A : Nat} (S : LnS h f L c A) : HK h A = 102 := S.2.2.1
theorem LnS.la {h : Hp} {f : Nat → Nat → Int32} {L : List Nat} {c A : Nat} (S : LnS h f L c A) : HL h A = capc c := S.2.2.2.1
theorem LnS.an {h : Hp} {f : Nat → Nat → Int32} {L : List Nat} {c A : Nat} (S : LnS h f L c A) : A < HN h := S.2.2.2.2.1
theorem LnS.ap {h : Hp} {f : Nat → Nat → Int32} {L : List Nat} {c A : Nat} (S : LnS h f L c A) : A = 240 ∨ 241 ≤ A := S.2.2.2.2.2.1
theorem LnS.hn {h : Hp} {f : Nat → Nat → Int32} {L : List Nat} {c A : Nat} (S : LnS h f L c A) : 241 ≤ HN h := S.2.2.2.2.2.2.1
theorem LnS.c0 {h : Hp} {f : Nat → Nat → Int32} {L : List Nat} {c A : Nat} (S : LnS h f L c A) : f 239 1 = nI 0 := S.2.2.2.2.2.2.2.1
theorem LnS.n {h : Hp} {f : Nat → Nat → Int32} {L : List Nat} {c A : Nat} (S : LnS h f L c A) : f 239 3 = nI L.length := S.2.2.2.2.2.2.2.2.1
theorem LnS.le {h : Hp} {f : Nat → Nat → Int32} {L : List Nat} {c A : Nat} (S : LnS h f L c A) : L.length ≤ capc c := S.2.2.2.2.2.2.2.2.2.1
theorem LnS.c3 {h : Hp} {f : Nat → Nat → Int32} {L : List Nat} {c A : Nat} (S : LnS h f L c A) : c ≤ 3 := S.2.2.2.2.2.2.2.2.2.2.1
theorem LnS.z {h : Hp} {f : Nat → Nat → Int32} {L : List Nat} {c A : Nat} (S : LnS h f L c A) : ∀ i, i < capc c → ∃ v, v < 128 ∧ f A i = nI v := S.2.2.2.2.2.2.2.2.2.2.2.1
theorem LnS.x {h : Hp} {f : Nat → Nat → Int32} {L : List Nat} {c A : Nat} (S : LnS h f L c A) : ∀ i, i < L.length → f A i = nI (L.getD i 0) := S.2.2.2.2.2.2.2.2.2.2.2.2
/-- what the growing of the line leaves as it was -/
def Gw (h h' : Hp) (c c' : Nat) : Prop := (HN h ≤ HN h') ∧ (∀ a, a < HN h → h'.2.1 a = h.2.1 a) ∧ (∀ a, a < HN h → ∀ i, ¬(a = 239 ∧ i = 0) → HR h' a i = HR h a i) ∧ (HC h' + c = HC h + c') ∧ (HS h' + capt c = HS h + capt c')
theorem Gw.n {h h' : Hp} {c c' : Nat} (S : Gw h h' c c') : HN h ≤ HN h' := S.1
theorem Gw.k {h h' : Hp} {c c' : Nat} (S : Gw h h' c c') : ∀ a, a < HN h → h'.2.1 a = h.2.1 a := S.2.1
theorem Gw.r {h h' : Hp} {c c' : Nat} (S : Gw h h' c c') : ∀ a, a < HN h → ∀ i, ¬(a = 239 ∧ i = 0) → HR h' a i = HR h a i := S.2.2.1
theorem Gw.c {h h' : Hp} {c c' : Nat} (S : Gw h h' c c') : HC h' + c = HC h + c' := S.2.2.2.1
theorem Gw.s {h h' : Hp} {c c' : Nat} (S : Gw h h' c c') : HS h' + capt c = HS h + capt c' := S.2.2.2.2
theorem Gw.refl (h : Hp) (c : Nat) : Gw h h c c := ⟨Nat.le_refl _, fun _ _ => rfl, fun _ _ _ _ => rfl, rfl, rfl⟩
theorem Gw.trans {h h1 h2 : Hp} {c c1 c2 : Nat} (G : Gw h h1 c c1) (K : Gw h1 h2 c1 c2) : Gw h h2 c c2 := by
  obtain ⟨a1, a2, a3, a4, a5⟩ := G
  obtain ⟨b1, b2, b3, b4, b5⟩ := K
  exact ⟨by omega, fun a ha => (b2 a (by omega)).trans (a2 a ha), fun a ha i hi => (b3 a (by omega) i hi).trans (a3 a ha i hi), by omega, by omega⟩
def FLc (f f' : Nat → Nat → Int32) : Prop := ∀ a y, a ≠ 239 → a ≠ 240 → a < 241 → f' a y = f a y
theorem FLc.refl (f : Nat → Nat → Int32) : FLc f f := fun _ _ _ _ _ => rfl
theorem FLc.trans {f g k : Nat → Nat → Int32} (H : FLc f g) (K : FLc g k) : FLc f k := fun a y q1 q2 q3 => (K a y q1 q2 q3).trans (H a y q1 q2 q3)
theorem sh0 : ∀ n, n < 256 → (Int32.ofNat n >>> ((0 : Int32) &&& 31)) = Int32.ofNat n ∧ (Int32.ofNat n <<< ((0 : Int32) &&& 31)) = Int32.ofNat n := by decide +kernel
theorem shr0 {n : Nat} (h : n < 256) : nI n >>> (nI 0 &&& 31) = nI n := (sh0 n h).1
theorem shl0 {n : Nat} (h : n < 256) : nI n <<< (nI 0 &&& 31) = nI n := (sh0 n h).2
theorem sub_toInt {a b : Nat} (ha : a < 1073741824) (hb : b < 1073741824) : (nI a - nI b).toInt = (a : Int) - b := by
  rw [Int32.toInt_sub, nI_toInt (by omega), nI_toInt (by omega)]
  exact Int.bmod_eq_of_le (by omega) (by omega)
theorem pos_sub {a b : Nat} (ha : a < 1073741824) (hb : b < 1073741824) : ((0 : Int32) < nI a - nI b) = (b < a) := propext (by
  have h0 : ((0 : Int32)).toInt = 0 := by decide
  rw [Int32.lt_iff_toInt_lt, sub_toInt ha hb, h0]
  omega)
theorem big1 {n : Nat} (h : n < 2147483639) : ((2147483639 : Int32) < nI n) = False := eq_false (by
  have h0 : ((2147483639 : Int32)).toInt = 2147483639 := by decide
  rw [Int32.lt_iff_toInt_lt, h0, nI_toInt (by omega)]
  omega)
theorem big2 {n : Nat} (h : n < 2147483639) : (nI n = (2147483647 : Int32)) = False := eq_false (fun q => by
  have h0 : ((2147483647 : Int32)).toInt = 2147483647 := by decide
  have h1 := congrArg Int32.toInt q
  rw [h0, nI_toInt (by omega)] at h1
  omega)
theorem big3 {n : Nat} (h : n ≤ 100000) : (decide ((0 : Int32) ≤ nI n) && decide (nI n ≤ (100000 : Int32))) = true := by
  have h0 : ((100000 : Int32)).toInt = 100000 := by decide
  have h1 : ((0 : Int32)).toInt = 0 := by decide
  rw [Bool.and_eq_true, decide_eq_true_eq, decide_eq_true_eq, Int32.le_iff_toInt_le, Int32.le_iff_toInt_le, h0, h1, nI_toInt (by omega)]
  omega
section LN
variable {h : Hp} {f : Nat → Nat → Int32} {L : List Nat} {c A : Nat}
theorem newLen_ok {p d : Nat} (hp : p ≤ 70) (hd : d ≤ p + 2) : CL 72 [.int (nI p), .int (nI d), .int (nI (p + 2))] h = some (.ok (.int (nI (2 * p + 2))), h) := by
  rw [e72]
  by_cases q : d < p + 2
  · simp (disch := omega) only [q, pos_nI, big1, show 0 < p + (p + 2) by omega, show p + (p + 2) = 2 * p + 2 by omega, show 0 < 2 * p + 2 by omega, cond_true, cond_false, bI_ok, bI_er, bV_ok, bV_er, bR_ok, bR_er, bD_ok, bD_er, bF_ok, bF_er, thr_ap, cl_nI, lt_nI, le_nI, eq_nI, m1_lt, nI_m1, m1_nI, nI_lt_m1, add_nI, sub_nI, addm_nI, z_addm, z_subm, mul_nI, fit1_0, fit1_1, fit2_n, HI_wI, HK_wI, HL_wI, HR_wI, ckK_wI, chI_wI, sI_wI, wI_wI, lz0, lz1, lz2, lz3, lz4, lz5, lz6, lz7, lz8, lz9, lz10, lz12, lz13, lz16, lz17, lz20, lz21, lz23, lz26, lz30, lz32, lz35, lz40, lz45, lz48, lz57, lz58, lz59, lz60, lz61, lz63, lz64, lz97, lz99, lz100, lz110, lz111, lz126, lz129, lz132, lz133, lz166, lz169, lz255, lz999, lz1183, lz1800, Nat.reduceAdd, Nat.reduceLT, Nat.reduceEqDiff, Nat.not_lt_zero, Nat.lt_irrefl, ↓reduceIte, Nat.zero_add, Nat.add_zero, ne_eq, not_true_eq_false, not_false_eq_true, reduceCtorEq]
  · have e : d = p + 2 := by omega
    subst e
    simp (disch := omega) only [pos_nI, big1, show p + (p + 2) = 2 * p + 2 by omega, show 0 < 2 * p + 2 by omega, cond_true, cond_false, bI_ok, bI_er, bV_ok, bV_er, bR_ok, bR_er, bD_ok, bD_er, bF_ok, bF_er, thr_ap, cl_nI, lt_nI, le_nI, eq_nI, m1_lt, nI_m1, m1_nI, nI_lt_m1, add_nI, sub_nI, addm_nI, z_addm, z_subm, mul_nI, fit1_0, fit1_1, fit2_n, HI_wI, HK_wI, HL_wI, HR_wI, ckK_wI, chI_wI, sI_wI, wI_wI, lz0, lz1, lz2, lz3, lz4, lz5, lz6, lz7, lz8, lz9, lz10, lz12, lz13, lz16, lz17, lz20, lz21, lz23, lz26, lz30, lz32, lz35, lz40, lz45, lz48, lz57, lz58, lz59, lz60, lz61, lz63, lz64, lz97, lz99, lz100, lz110, lz111, lz126, lz129, lz132, lz133, lz166, lz169, lz255, lz999, lz1183, lz1800, Nat.reduceAdd, Nat.reduceLT, Nat.reduceEqDiff, Nat.not_lt_zero, Nat.lt_irrefl, ↓reduceIte, Nat.zero_add, Nat.add_zero, ne_eq, not_true_eq_false, not_false_eq_true, reduceCtorEq]
theorem newCap_ok (S : LnS h f L c A) {m : Nat} (hc : c < 3) (h1 : capc c < m) (h2 : m ≤ 2 * capc c + 2) : CL 73 [.ref 239, .int (nI m)] (wI h f) = some (.ok (.int (nI (capc (c + 1)))), wI h f) := by
  have hb := (capc_b c (by omega)).2
  have hs := (capc_s c hc).1
  have hb2 := (capc_b (c + 1) (by omega)).2
  have hck := ck_of S.k
  have hn := newLen_ok (h := wI h f) (p := capc c) (d := m - capc c) (by omega) (by omega)
  rw [← hs] at hn
  have hal : Nat.ble 100 (HK h A) = true := by rw [S.ka]; rfl
  have e2 : ((2 : Int32) <<< (nI 0 &&& 31)) = nI 2 := by decide
  rw [lz2] at e2
  rw [e73]
  simp (disch := omega) only [ckK_wI, HR_wI, HK_wI, HL_wI, hck, S.r, hal, S.la, show ∀ n, Int32.ofNat n = nI n from fun _ => rfl, S.c0, shl0, shr0, e2, hn, big2, cond_true, cond_false, bI_ok, bI_er, bV_ok, bV_er, bR_ok, bR_er, bD_ok, bD_er, bF_ok, bF_er, thr_ap, cl_nI, lt_nI, le_nI, eq_nI, m1_lt, nI_m1, m1_nI, nI_lt_m1, add_nI, sub_nI, addm_nI, z_addm, z_subm, mul_nI, fit1_0, fit1_1, fit2_n, HI_wI, HK_wI, HL_wI, HR_wI, ckK_wI, chI_wI, sI_wI, wI_wI, lz0, lz1, lz2, lz3, lz4, lz5, lz6, lz7, lz8, lz9, lz10, lz12, lz13, lz16, lz17, lz20, lz21, lz23, lz26, lz30, lz32, lz35, lz40, lz45, lz48, lz57, lz58, lz59, lz60, lz61, lz63, lz64, lz97, lz99, lz100, lz110, lz111, lz126, lz129, lz132, lz133, lz166, lz169, lz255, lz999, lz1183, lz1800, Nat.reduceAdd, Nat.reduceLT, Nat.reduceEqDiff, Nat.not_lt_zero, Nat.lt_irrefl, ↓reduceIte, Nat.zero_add, Nat.add_zero, ne_eq, not_true_eq_false, not_false_eq_true, reduceCtorEq]
end LN
