/-! NUMBERS WITH A POINT: a quotient is a number -/
def nnE (n : Nat) : Prop := n < 18446744073709551616 ∧ n % 9223372036854775808 ≤ 9218868437227405312
def nnF (n : Nat) : Prop := n < 4294967296 ∧ n % 2147483648 ≤ 2139095040
theorem tl64 : FP.Core.Fmt.tails FP.Core.b64 = 4503599627370496 := by decide
theorem ex64 : FP.Core.Fmt.exps FP.Core.b64 = 2048 := by decide
theorem tl32 : FP.Core.Fmt.tails FP.Core.b32 = 8388608 := by decide
theorem ex32 : FP.Core.Fmt.exps FP.Core.b32 = 256 := by decide
theorem qx64 : FP.Core.Fmt.qmax FP.Core.b64 = 971 := by decide
theorem qn64 : FP.Core.Fmt.qmin FP.Core.b64 = -1074 := by decide
theorem qx32 : FP.Core.Fmt.qmax FP.Core.b32 = 104 := by decide
theorem qn32 : FP.Core.Fmt.qmin FP.Core.b32 = -149 := by decide
theorem bl_lt (s : Bool) : s.toNat ≤ 1 := by cases s <;> decide
theorem en64i (s : Bool) : nnE (FP.Core.encode FP.Core.b64 (.inf s)) := by
  have h : FP.Core.encode FP.Core.b64 (.inf s) = (s.toNat * 2048 + 2047) * 4503599627370496 + 0 := by
    show FP.Core.assemble _ _ _ _ = _
    unfold FP.Core.assemble
    rw [tl64, ex64]
  have := bl_lt s
  unfold nnE
  rw [h]
  omega
theorem en64f (s : Bool) {c : Nat} {q : Int} (hc : c < 9007199254740992) (hq : q ≤ 971) : nnE (FP.Core.encode FP.Core.b64 (.fin s c q)) := by
  have hs := bl_lt s
  have h : FP.Core.encode FP.Core.b64 (.fin s c q) = if c < FP.Core.Fmt.tails FP.Core.b64 then FP.Core.assemble FP.Core.b64 s 0 c else FP.Core.assemble FP.Core.b64 s ((q - FP.Core.Fmt.qmin FP.Core.b64).toNat + 1) (c - FP.Core.Fmt.tails FP.Core.b64) := rfl
  unfold nnE
  rw [h]
  unfold FP.Core.assemble
  rw [tl64, ex64, qn64]
  split <;> omega
theorem en32i (s : Bool) : nnF (FP.Core.encode FP.Core.b32 (.inf s)) := by
  have h : FP.Core.encode FP.Core.b32 (.inf s) = (s.toNat * 256 + 255) * 8388608 + 0 := by
    show FP.Core.assemble _ _ _ _ = _
    unfold FP.Core.assemble
    rw [tl32, ex32]
  have := bl_lt s
  unfold nnF
  rw [h]
  omega
theorem en32f (s : Bool) {c : Nat} {q : Int} (hc : c < 16777216) (hq : q ≤ 104) : nnF (FP.Core.encode FP.Core.b32 (.fin s c q)) := by
  have hs := bl_lt s
  have h : FP.Core.encode FP.Core.b32 (.fin s c q) = if c < FP.Core.Fmt.tails FP.Core.b32 then FP.Core.assemble FP.Core.b32 s 0 c else FP.Core.assemble FP.Core.b32 s ((q - FP.Core.Fmt.qmin FP.Core.b32).toNat + 1) (c - FP.Core.Fmt.tails FP.Core.b32) := rfl
  unfold nnF
  rw [h]
  unfold FP.Core.assemble
  rw [tl32, ex32, qn32]
  split <;> omega
theorem rr64 (s : Bool) (a d : Nat) (e : Int) : nnE (FP.Core.encode FP.Core.b64 (FP.Core.roundRatio FP.Core.b64 s a d e)) := by
  unfold FP.Core.roundRatio
  split
  · exact en64f s (by decide) (by decide)
  · unfold FP.Core.roundAt FP.Core.settle FP.Core.bound
    rw [qx64]
    generalize FP.Core.quantum FP.Core.b64 a d e = q
    generalize FP.Core.nearest _ _ = c
    split
    · rename_i hc
      have hc : c < 9007199254740992 := hc
      split
      · rename_i hq
        exact en64f s hc hq
      · exact en64i s
    · split
      · rename_i hq
        exact en64f s (by rw [tl64]; decide) hq
      · exact en64i s
theorem rr32 (s : Bool) (a d : Nat) (e : Int) : nnF (FP.Core.encode FP.Core.b32 (FP.Core.roundRatio FP.Core.b32 s a d e)) := by
  unfold FP.Core.roundRatio
  split
  · exact en32f s (by decide) (by decide)
  · unfold FP.Core.roundAt FP.Core.settle FP.Core.bound
    rw [qx32]
    generalize FP.Core.quantum FP.Core.b32 a d e = q
    generalize FP.Core.nearest _ _ = c
    split
    · rename_i hc
      have hc : c < 16777216 := hc
      split
      · rename_i hq
        exact en32f s hc hq
      · exact en32i s
    · split
      · rename_i hq
        exact en32f s (by rw [tl32]; decide) hq
      · exact en32i s
theorem de64 {n : Nat} (h : nnE n) : FP.Core.decode FP.Core.b64 n ≠ .nan := by
  unfold FP.Core.decode FP.Core.fieldE FP.Core.fieldT
  rw [tl64, ex64]
  unfold nnE at h
  split
  · split
    · intro z
      cases z
    · omega
  · split
    · intro z
      cases z
    · intro z
      cases z
theorem de32 {n : Nat} (h : nnF n) : FP.Core.decode FP.Core.b32 n ≠ .nan := by
  unfold FP.Core.decode FP.Core.fieldE FP.Core.fieldT
  rw [tl32, ex32]
  unfold nnF at h
  split
  · split
    · intro z
      cases z
    · omega
  · split
    · intro z
      cases z
    · intro z
      cases z
def fpos (d : FP.Core.Datum) : Bool := match d with
  | .fin _ c _ => decide (c ≠ 0)
  | _ => false
theorem qu64 {x y : FP.Core.Datum} (hx : x ≠ .nan) (hy : fpos y = true) : nnE (FP.Core.encode FP.Core.b64 (FP.Core.quotient FP.Core.b64 x y)) := by
  cases y with
  | nan => cases hy
  | inf s => cases hy
  | fin t d r =>
    have hd : d ≠ 0 := of_decide_eq_true hy
    cases x with
    | nan => exact absurd rfl hx
    | inf s => exact en64i _
    | fin s c q =>
      show nnE (FP.Core.encode FP.Core.b64 (if d = 0 then _ else FP.Core.roundRatio FP.Core.b64 (s != t) c d (q - r)))
      rw [if_neg hd]
      exact rr64 _ _ _ _
theorem qu32 {x y : FP.Core.Datum} (hx : x ≠ .nan) (hy : fpos y = true) : nnF (FP.Core.encode FP.Core.b32 (FP.Core.quotient FP.Core.b32 x y)) := by
  cases y with
  | nan => cases hy
  | inf s => cases hy
  | fin t d r =>
    have hd : d ≠ 0 := of_decide_eq_true hy
    cases x with
    | nan => exact absurd rfl hx
    | inf s => exact en32i _
    | fin s c q =>
      show nnF (FP.Core.encode FP.Core.b32 (if d = 0 then _ else FP.Core.roundRatio FP.Core.b32 (s != t) c d (q - r)))
      rw [if_neg hd]
      exact rr32 _ _ _ _
theorem u64E {n : Nat} (h : nnE n) : (UInt64.ofNat n).toNat = n := UInt64.toNat_ofNat_of_lt' h.1
theorem u32F {n : Nat} (h : nnF n) : (UInt32.ofNat n).toNat = n := UInt32.toNat_ofNat_of_lt' h.1
theorem ok64 {n : Nat} (h : nnE n) : (UInt64.ofNat n &&& 0x7fffffffffffffff ≤ 0x7ff0000000000000) = True := eq_true (by
  rw [UInt64.le_iff_toNat_le, UInt64.toNat_and, u64E h]
  have e : (0x7fffffffffffffff : UInt64).toNat = 2 ^ 63 - 1 := rfl
  rw [e, Nat.and_two_pow_sub_one_eq_mod]
  exact h.2)
theorem ok32 {n : Nat} (h : nnF n) : (UInt32.ofNat n &&& 0x7fffffff ≤ 0x7f800000) = True := eq_true (by
  rw [UInt32.le_iff_toNat_le, UInt32.toNat_and, u32F h]
  have e : (0x7fffffff : UInt32).toNat = 2 ^ 31 - 1 := rfl
  rw [e, Nat.and_two_pow_sub_one_eq_mod]
  exact h.2)
theorem fi64 (i : Int) : nnE (FP.Core.fromInt FP.Core.b64 i) := rr64 _ _ _ _
theorem fi32 (i : Int) : nnF (FP.Core.fromInt FP.Core.b32 i) := rr32 _ _ _ _
theorem pos64 : ∀ m, m < 31 → m ≠ 0 → fpos (FP.Core.decode FP.Core.b64 (FP.Core.fromInt FP.Core.b64 (m : Nat))) = true := by decide +kernel
theorem pos32 : ∀ m, m < 31 → m ≠ 0 → fpos (FP.Core.decode FP.Core.b32 (FP.Core.fromInt FP.Core.b32 (m : Nat))) = true := by decide +kernel
def dvN (a m : Nat) : Nat := FP.Core.div FP.Core.b64 (FP.Core.fromInt FP.Core.b64 (a : Nat)) (FP.Core.fromInt FP.Core.b64 (m : Nat))
def fvN (a m : Nat) : Nat := FP.Core.div FP.Core.b32 (FP.Core.fromInt FP.Core.b32 (a : Nat)) (FP.Core.fromInt FP.Core.b32 (m : Nat))
theorem dv_eq {a m : Nat} (ha : a < 2147483648) (hm : m < 2147483648) : FP.ddiv (FP.i2d (nI a)) (FP.i2d (nI m)) = UInt64.ofNat (dvN a m) := by
  show UInt64.ofNat (FP.Core.div FP.Core.b64 (UInt64.ofNat (FP.Core.fromInt FP.Core.b64 (nI a).toInt)).toNat (UInt64.ofNat (FP.Core.fromInt FP.Core.b64 (nI m).toInt)).toNat) = _
  rw [u64E (fi64 _), u64E (fi64 _), nI_toInt ha, nI_toInt hm]
  rfl
theorem fv_eq {a m : Nat} (ha : a < 2147483648) (hm : m < 2147483648) : FP.fdiv (FP.i2f (nI a)) (FP.i2f (nI m)) = UInt32.ofNat (fvN a m) := by
  show UInt32.ofNat (FP.Core.div FP.Core.b32 (UInt32.ofNat (FP.Core.fromInt FP.Core.b32 (nI a).toInt)).toNat (UInt32.ofNat (FP.Core.fromInt FP.Core.b32 (nI m).toInt)).toNat) = _
  rw [u32F (fi32 _), u32F (fi32 _), nI_toInt ha, nI_toInt hm]
  rfl
theorem dv_nn {a m : Nat} (h1 : m < 31) (h2 : m ≠ 0) : nnE (dvN a m) := qu64 (de64 (fi64 _)) (pos64 m h1 h2)
theorem fv_nn {a m : Nat} (h1 : m < 31) (h2 : m ≠ 0) : nnF (fvN a m) := qu32 (de32 (fi32 _)) (pos32 m h1 h2)
def wdN (n : Nat) : Nat := FP.Core.convert FP.Core.b32 FP.Core.b64 n
theorem wd_eq {n : Nat} (h : nnF n) : FP.f2d (UInt32.ofNat n) = UInt64.ofNat (wdN n) := by
  unfold FP.f2d
  have hn : FP.Core.fIsNaN (UInt32.ofNat n) = false := by
    show decide (FP.Core.decode FP.Core.b32 (UInt32.ofNat n).toNat = .nan) = false
    rw [u32F h]
    exact decide_eq_false (de32 h)
  rw [hn, if_neg (by decide)]
  show UInt64.ofNat (FP.Core.convert FP.Core.b32 FP.Core.b64 (UInt32.ofNat n).toNat) = _
  rw [u32F h]
  rfl
theorem wd_nn {n : Nat} (h : nnF n) : nnE (wdN n) := by
  unfold wdN FP.Core.convert
  have := de32 h
  cases hd : FP.Core.decode FP.Core.b32 n with
  | nan => exact absurd hd this
  | inf s => exact en64i s
  | fin s c q => exact rr64 _ _ _ _
theorem cmp_self {n : Nat} (h : nnE n) : FP.dcmp (UInt64.ofNat n) (UInt64.ofNat n) = some .eq := by
  show FP.Core.cmp FP.Core.b64 (UInt64.ofNat n).toNat (UInt64.ofNat n).toNat = some .eq
  rw [u64E h]
  unfold FP.Core.cmp
  have := de64 h
  cases hd : FP.Core.decode FP.Core.b64 n with
  | nan => exact absurd hd this
  | inf s =>
    show some (compare _ _) = some Ordering.eq
    rw [Int.compare_eq_eq.mpr rfl]
  | fin s c q =>
    show some (compare _ _) = some Ordering.eq
    rw [Int.compare_eq_eq.mpr rfl]
section QU
variable {h : Hp} {B : Nat} {b : Bk}
/-- the sum of all amounts -/
def allA (A : AF) : Nat := suA A 0 + suA A 1 + suA A 2
theorem mean_f (S : QS h B) (R : RK (HI h) B b) (h0 : tot (kA b) = 0) : CL 138 [.ref 31] h = some (.error 5, hthr h) := by
  have hm := R.t.N.m
  rw [R.t.m, h0] at hm
  rw [e138]
  simp (disch := omega) only [S.f, hm, cond_true, cond_false, bI_ok, bI_er, bV_ok, bV_er, bR_ok, bR_er, bD_ok, bD_er, bF_ok, bF_er, thr_ap, cl_nI, lt_nI, le_nI, eq_nI, m1_lt, nI_m1, m1_nI, nI_lt_m1, add_nI, sub_nI, addm_nI, z_addm, z_subm, mul_nI, fit1_0, fit1_1, fit2_n, HI_wI, HK_wI, HL_wI, HR_wI, ckK_wI, chI_wI, sI_wI, wI_wI, lz0, lz1, lz2, lz3, lz4, lz5, lz6, lz7, lz8, lz9, lz10, lz12, lz13, lz16, lz17, lz20, lz21, lz23, lz26, lz30, lz32, lz35, lz40, lz45, lz48, lz57, lz58, lz59, lz60, lz61, lz63, lz64, lz97, lz99, lz100, lz110, lz111, lz126, lz129, lz132, lz133, lz166, lz169, lz255, lz999, lz1183, lz1800, Nat.reduceAdd, Nat.reduceLT, Nat.reduceEqDiff, Nat.not_lt_zero, Nat.lt_irrefl, ↓reduceIte, Nat.zero_add, Nat.add_zero, ne_eq, not_true_eq_false, not_false_eq_true, reduceCtorEq]
theorem mean_t (S : QS h B) (R : RK (HI h) B b) (h0 : 0 < tot (kA b)) (h30 : tot (kA b) ≤ 30) (ha : allA (kA b) < 100000) : CL 138 [.ref 31] h = some (.ok (.double (UInt64.ofNat (dvN (allA (kA b)) (tot (kA b))))), h) := by
  have hm := R.t.N.m
  rw [R.t.m] at hm
  have s0 := sumOf_ok S.t R.t.N (show 0 < 3 by decide)
  have s1 := sumOf_ok S.t R.t.N (show 1 < 3 by decide)
  have s2 := sumOf_ok S.t R.t.N (show 2 < 3 by decide)
  rw [R.t.su (by decide)] at s0 s1 s2
  have hst : CL 138 [.ref 31] h = RF 138 30 [.ref 31, .int (nI (tot (kA b))), .int (nI 0), .int (nI 0)] [] h := by
    rw [e138]
    simp (disch := omega) only [S.f, hm, show ¬(tot (kA b) = 0) by omega, cond_true, cond_false, bI_ok, bI_er, bV_ok, bV_er, bR_ok, bR_er, bD_ok, bD_er, bF_ok, bF_er, thr_ap, cl_nI, lt_nI, le_nI, eq_nI, m1_lt, nI_m1, m1_nI, nI_lt_m1, add_nI, sub_nI, addm_nI, z_addm, z_subm, mul_nI, fit1_0, fit1_1, fit2_n, HI_wI, HK_wI, HL_wI, HR_wI, ckK_wI, chI_wI, sI_wI, wI_wI, lz0, lz1, lz2, lz3, lz4, lz5, lz6, lz7, lz8, lz9, lz10, lz12, lz13, lz16, lz17, lz20, lz21, lz23, lz26, lz30, lz32, lz35, lz40, lz45, lz48, lz57, lz58, lz59, lz60, lz61, lz63, lz64, lz97, lz99, lz100, lz110, lz111, lz126, lz129, lz132, lz133, lz166, lz169, lz255, lz999, lz1183, lz1800, Nat.reduceAdd, Nat.reduceLT, Nat.reduceEqDiff, Nat.not_lt_zero, Nat.lt_irrefl, ↓reduceIte, Nat.zero_add, Nat.add_zero, ne_eq, not_true_eq_false, not_false_eq_true, reduceCtorEq]
  have hn := ok64 (dv_nn (a := allA (kA b)) (m := tot (kA b)) (by omega) (by omega))
  rw [← dv_eq (by omega) (by omega)] at hn ⊢
  unfold allA at ha hn ⊢
  rw [hst, e138_30]
  simp (disch := omega) only [S.f, s0, cond_true, cond_false, bI_ok, bI_er, bV_ok, bV_er, bR_ok, bR_er, bD_ok, bD_er, bF_ok, bF_er, thr_ap, cl_nI, lt_nI, le_nI, eq_nI, m1_lt, nI_m1, m1_nI, nI_lt_m1, add_nI, sub_nI, addm_nI, z_addm, z_subm, mul_nI, fit1_0, fit1_1, fit2_n, HI_wI, HK_wI, HL_wI, HR_wI, ckK_wI, chI_wI, sI_wI, wI_wI, lz0, lz1, lz2, lz3, lz4, lz5, lz6, lz7, lz8, lz9, lz10, lz12, lz13, lz16, lz17, lz20, lz21, lz23, lz26, lz30, lz32, lz35, lz40, lz45, lz48, lz57, lz58, lz59, lz60, lz61, lz63, lz64, lz97, lz99, lz100, lz110, lz111, lz126, lz129, lz132, lz133, lz166, lz169, lz255, lz999, lz1183, lz1800, Nat.reduceAdd, Nat.reduceLT, Nat.reduceEqDiff, Nat.not_lt_zero, Nat.lt_irrefl, ↓reduceIte, Nat.zero_add, Nat.add_zero, ne_eq, not_true_eq_false, not_false_eq_true, reduceCtorEq]
  rw [e138_30]
  simp (disch := omega) only [S.f, s1, cond_true, cond_false, bI_ok, bI_er, bV_ok, bV_er, bR_ok, bR_er, bD_ok, bD_er, bF_ok, bF_er, thr_ap, cl_nI, lt_nI, le_nI, eq_nI, m1_lt, nI_m1, m1_nI, nI_lt_m1, add_nI, sub_nI, addm_nI, z_addm, z_subm, mul_nI, fit1_0, fit1_1, fit2_n, HI_wI, HK_wI, HL_wI, HR_wI, ckK_wI, chI_wI, sI_wI, wI_wI, lz0, lz1, lz2, lz3, lz4, lz5, lz6, lz7, lz8, lz9, lz10, lz12, lz13, lz16, lz17, lz20, lz21, lz23, lz26, lz30, lz32, lz35, lz40, lz45, lz48, lz57, lz58, lz59, lz60, lz61, lz63, lz64, lz97, lz99, lz100, lz110, lz111, lz126, lz129, lz132, lz133, lz166, lz169, lz255, lz999, lz1183, lz1800, Nat.reduceAdd, Nat.reduceLT, Nat.reduceEqDiff, Nat.not_lt_zero, Nat.lt_irrefl, ↓reduceIte, Nat.zero_add, Nat.add_zero, ne_eq, not_true_eq_false, not_false_eq_true, reduceCtorEq]
  rw [e138_30]
  simp (disch := omega) only [S.f, s2, cond_true, cond_false, bI_ok, bI_er, bV_ok, bV_er, bR_ok, bR_er, bD_ok, bD_er, bF_ok, bF_er, thr_ap, cl_nI, lt_nI, le_nI, eq_nI, m1_lt, nI_m1, m1_nI, nI_lt_m1, add_nI, sub_nI, addm_nI, z_addm, z_subm, mul_nI, fit1_0, fit1_1, fit2_n, HI_wI, HK_wI, HL_wI, HR_wI, ckK_wI, chI_wI, sI_wI, wI_wI, lz0, lz1, lz2, lz3, lz4, lz5, lz6, lz7, lz8, lz9, lz10, lz12, lz13, lz16, lz17, lz20, lz21, lz23, lz26, lz30, lz32, lz35, lz40, lz45, lz48, lz57, lz58, lz59, lz60, lz61, lz63, lz64, lz97, lz99, lz100, lz110, lz111, lz126, lz129, lz132, lz133, lz166, lz169, lz255, lz999, lz1183, lz1800, Nat.reduceAdd, Nat.reduceLT, Nat.reduceEqDiff, Nat.not_lt_zero, Nat.lt_irrefl, ↓reduceIte, Nat.zero_add, Nat.add_zero, ne_eq, not_true_eq_false, not_false_eq_true, reduceCtorEq]
  rw [e138_30]
  simp (disch := omega) only [hn, cond_true, cond_false, bI_ok, bI_er, bV_ok, bV_er, bR_ok, bR_er, bD_ok, bD_er, bF_ok, bF_er, thr_ap, cl_nI, lt_nI, le_nI, eq_nI, m1_lt, nI_m1, m1_nI, nI_lt_m1, add_nI, sub_nI, addm_nI, z_addm, z_subm, mul_nI, fit1_0, fit1_1, fit2_n, HI_wI, HK_wI, HL_wI, HR_wI, ckK_wI, chI_wI, sI_wI, wI_wI, lz0, lz1, lz2, lz3, lz4, lz5, lz6, lz7, lz8, lz9, lz10, lz12, lz13, lz16, lz17, lz20, lz21, lz23, lz26, lz30, lz32, lz35, lz40, lz45, lz48, lz57, lz58, lz59, lz60, lz61, lz63, lz64, lz97, lz99, lz100, lz110, lz111, lz126, lz129, lz132, lz133, lz166, lz169, lz255, lz999, lz1183, lz1800, Nat.reduceAdd, Nat.reduceLT, Nat.reduceEqDiff, Nat.not_lt_zero, Nat.lt_irrefl, ↓reduceIte, Nat.zero_add, Nat.add_zero, ne_eq, not_true_eq_false, not_false_eq_true, reduceCtorEq]
theorem share_f (S : QS h B) (R : RK (HI h) B b) (h0 : nkA (kA b) = 0) : CL 59 [.ref 31] h = some (.error 5, hthr h) := by
  have hm := R.t.N.n
  rw [R.t.nk, h0] at hm
  rw [e59]
  simp (disch := omega) only [S.f, hm, cond_true, cond_false, bI_ok, bI_er, bV_ok, bV_er, bR_ok, bR_er, bD_ok, bD_er, bF_ok, bF_er, thr_ap, cl_nI, lt_nI, le_nI, eq_nI, m1_lt, nI_m1, m1_nI, nI_lt_m1, add_nI, sub_nI, addm_nI, z_addm, z_subm, mul_nI, fit1_0, fit1_1, fit2_n, HI_wI, HK_wI, HL_wI, HR_wI, ckK_wI, chI_wI, sI_wI, wI_wI, lz0, lz1, lz2, lz3, lz4, lz5, lz6, lz7, lz8, lz9, lz10, lz12, lz13, lz16, lz17, lz20, lz21, lz23, lz26, lz30, lz32, lz35, lz40, lz45, lz48, lz57, lz58, lz59, lz60, lz61, lz63, lz64, lz97, lz99, lz100, lz110, lz111, lz126, lz129, lz132, lz133, lz166, lz169, lz255, lz999, lz1183, lz1800, Nat.reduceAdd, Nat.reduceLT, Nat.reduceEqDiff, Nat.not_lt_zero, Nat.lt_irrefl, ↓reduceIte, Nat.zero_add, Nat.add_zero, ne_eq, not_true_eq_false, not_false_eq_true, reduceCtorEq]
theorem share_t (S : QS h B) (R : RK (HI h) B b) (h0 : 0 < nkA (kA b)) : CL 59 [.ref 31] h = some (.ok (.float (UInt32.ofNat (fvN (cwA (kA b) 99) (nkA (kA b))))), h) := by
  have hm := R.t.N.n
  have n30 := R.t.n30
  have hc := countWith_ok S.t R.t.N (c := 99) (by decide)
  rw [R.t.cw] at hc
  rw [R.t.nk] at hm n30
  have hb : cwA (kA b) 99 ≤ 1000 := by
    have := sumN_bd (f := fun k => b2n (decide (0 < hoA (kA b) k ∧ stA (kA b) k = 99))) (n := 1000) (b := 1) (fun i _ => by unfold b2n; split <;> omega)
    unfold cwA
    omega
  have hn := ok32 (fv_nn (a := cwA (kA b) 99) (m := nkA (kA b)) (by omega) (by omega))
  rw [← fv_eq (by omega) (by omega)] at hn ⊢
  rw [e59]
  simp (disch := omega) only [S.f, hm, hc, hn, show ¬(nkA (kA b) = 0) by omega, cond_true, cond_false, bI_ok, bI_er, bV_ok, bV_er, bR_ok, bR_er, bD_ok, bD_er, bF_ok, bF_er, thr_ap, cl_nI, lt_nI, le_nI, eq_nI, m1_lt, nI_m1, m1_nI, nI_lt_m1, add_nI, sub_nI, addm_nI, z_addm, z_subm, mul_nI, fit1_0, fit1_1, fit2_n, HI_wI, HK_wI, HL_wI, HR_wI, ckK_wI, chI_wI, sI_wI, wI_wI, lz0, lz1, lz2, lz3, lz4, lz5, lz6, lz7, lz8, lz9, lz10, lz12, lz13, lz16, lz17, lz20, lz21, lz23, lz26, lz30, lz32, lz35, lz40, lz45, lz48, lz57, lz58, lz59, lz60, lz61, lz63, lz64, lz97, lz99, lz100, lz110, lz111, lz126, lz129, lz132, lz133, lz166, lz169, lz255, lz999, lz1183, lz1800, Nat.reduceAdd, Nat.reduceLT, Nat.reduceEqDiff, Nat.not_lt_zero, Nat.lt_irrefl, ↓reduceIte, Nat.zero_add, Nat.add_zero, ne_eq, not_true_eq_false, not_false_eq_true, reduceCtorEq]
end QU
