/-! BITS, AND THE CLASS'S MATCHING -/
def bt (x : Int32) (r : Nat) : Bool := x.toUInt32.toNat.testBit r
theorem sh_dec : ∀ r, r < 32 → ((Int32.ofNat r).toUInt32 &&& Int32.toUInt32 31) = UInt32.ofNat r := by decide
theorem one_dec : ∀ r, r < 32 → ((1 : Int32) <<< (Int32.ofNat r &&& 31)).toUInt32.toNat = 2 ^ r := by decide
theorem bt_test (x : Int32) {r : Nat} (hr : r < 32) : ((((x.toUInt32 >>> ((nI r).toUInt32 &&& Int32.toUInt32 31)).toInt32) &&& (1 : Int32)) = 0) = (bt x r = false) := by
  have hk : ((nI r).toUInt32 &&& Int32.toUInt32 31) = UInt32.ofNat r := sh_dec r hr
  rw [hk]
  have e1 : ∀ a : Int32, (a = 0) = (a.toUInt32.toNat = 0) := fun a => propext ⟨fun z => by rw [z]; rfl, fun z => by
    have h1 : a.toUInt32 = 0 := UInt32.toNat_inj.mp z
    exact congrArg UInt32.toInt32 h1⟩
  rw [e1, Int32.toUInt32_and, UInt32.toUInt32_toInt32, UInt32.toNat_and, UInt32.toNat_shiftRight]
  have h2 : (UInt32.ofNat r).toNat = r := UInt32.toNat_ofNat_of_lt' (by show r < 4294967296; omega)
  rw [h2, Nat.mod_eq_of_lt hr]
  show (x.toUInt32.toNat >>> r &&& 1 = 0) = _
  unfold bt Nat.testBit
  rw [Nat.and_comm 1]
  apply propext
  rw [bne_eq_false_iff_eq]
def sb (x : Int32) (r : Nat) : Int32 := x ||| ((1 : Int32) <<< (nI r &&& 31))
theorem sb_eq (x : Int32) (r : Nat) : (x ||| ((1 : Int32) <<< (nI r &&& 31))) = sb x r := rfl
theorem bt_sb (x : Int32) {r i : Nat} (hr : r < 32) : bt (sb x r) i = (bt x i || decide (i = r)) := by
  unfold bt sb
  rw [Int32.toUInt32_or, UInt32.toNat_or, Nat.testBit_or]
  have h : ((1 : Int32) <<< (nI r &&& 31)).toUInt32.toNat = 2 ^ r := one_dec r hr
  rw [h, Nat.testBit_two_pow]
  congr 1
  rw [decide_eq_decide]
  exact ⟨fun z => z.symm, fun z => z.symm⟩
theorem bt_nt (x y : Int32) {r : Nat} (hr : r < 32) : bt (x &&& (y ^^^ ((-1) : Int32))) r = (bt x r && !bt y r) := by
  unfold bt
  rw [Int32.toUInt32_and, UInt32.toNat_and, Nat.testBit_and, Int32.toUInt32_xor, UInt32.toNat_xor, Nat.testBit_xor]
  have h : ((-1 : Int32)).toUInt32.toNat = 2 ^ 32 - 1 := rfl
  rw [h, Nat.testBit_two_pow_sub_one, decide_eq_true hr, Bool.xor_true]
theorem bt_0 (r : Nat) : bt (nI 0) r = false := by
  unfold bt
  exact Nat.zero_testBit r
def MgS (h : Hp) : Prop := HK h 227 = 6 ∧ (HR h 227 0 = 228 ∧ HR h 227 1 = 229 ∧ HR h 227 2 = 230 ∧ HR h 227 3 = 231 ∧ HR h 227 4 = 232 ∧ HR h 227 5 = 233 ∧ HR h 227 6 = 234) ∧ ∀ i, i < 7 → HK h (228 + i) = 100 ∧ HL h (228 + i) = 30
section MG
variable {h : Hp}
theorem MgS.wI (S : MgS h) (f : Nat → Nat → Int32) : MgS (wI h f) := S
theorem MgS.f (S : MgS h) : ckK h 227 6 = true ∧ HR h 227 0 = 228 ∧ HR h 227 1 = 229 ∧ HR h 227 2 = 230 ∧ HR h 227 3 = 231 ∧ HR h 227 4 = 232 ∧ HR h 227 5 = 233 ∧ HR h 227 6 = 234 := ⟨ck_of S.1, S.2.1⟩
theorem MgS.c (S : MgS h) {i : Nat} (hi : i < 30) : chI h 228 100 (nI i) = true ∧ chI h 229 100 (nI i) = true ∧ chI h 230 100 (nI i) = true ∧ chI h 231 100 (nI i) = true ∧ chI h 232 100 (nI i) = true ∧ chI h 233 100 (nI i) = true ∧ chI h 234 100 (nI i) = true := by
  have key : ∀ j, j < 7 → chI h (228 + j) 100 (nI i) = true := fun j hj => chI_nI (S.2.2 j hj).1 (S.2.2 j hj).2 hi (by decide)
  exact ⟨key 0 (by decide), key 1 (by decide), key 2 (by decide), key 3 (by decide), key 4 (by decide), key 5 (by decide), key 6 (by decide)⟩
/-- only the matching's arrays change -/
def Fm (f f' : Nat → Nat → Int32) : Prop := ∀ a x, ¬(227 ≤ a ∧ a < 235) → f' a x = f a x
/-- the mates as they lie -/
def Ms (f : Nat → Nat → Int32) (n : Nat) (m : MF) : Prop := ∀ i, i < n → f 229 i = oI (m i)
theorem Ms.flp {f : Nat → Nat → Int32} {n l r : Nat} {m : MF} (M : Ms f n m) (hlr : l ≠ r) : Ms (u2 (u2 f 229 l (nI r)) 229 r (nI l)) n (flp m l r) := by
  intro i hi
  by_cases q1 : i = r
  · subst q1
    rw [w2_eq, flp_r]
    rfl
  · rw [w2_ne (by omega)]
    by_cases q2 : i = l
    · subst q2
      rw [w2_eq, flp_l hlr]
      rfl
    · rw [w2_ne (by omega), flp_o q1 q2]
      exact M i hi
theorem oI_none : oI none = -nI 1 := rfl
/-- the flip along a chain -/
theorem flipC_ok (S : MgS h) {E : EF} {n st : Nat} {rb : Nat → Nat} (L : LR E n) (n30 : n ≤ 30) (e : Nat) : ∀ (d : Nat) (m : MF) (r t : Nat) (v w : Value) (f : Nat → Nat → Int32), f 227 7 = nI n → Ms f n m → (∀ i, i < n → E (rb i) i = true → f 230 i = nI (rb i)) → MD E m r → Ch E m rb st d r → t + d + 1 ≤ n → ∃ m' f', RF 113 4 [.ref 227, .int (nI e), .int (nI r), .int (nI t), v, w] [] (wI h f) = some (.ok .null, wI h f') ∧ Ms f' n m' ∧ FR E m m' st r ∧ ∀ a x, a ≠ 229 → f' a x = f a x := by
  intro d
  induction d with
  | zero =>
    intro m r t v w f h7 M hrb D C ht
    have he := C.e
    obtain ⟨l1, l2⟩ := L.1 _ _ he
    have hb : f 230 r = nI (rb r) := hrb r l2 he
    have hst : rb r = st := C.2.1
    have hm : f 229 (rb r) = -nI 1 := by rw [M _ l1, hst, C.2.2]; rfl
    have nlr := L.ne he
    refine ⟨flp m st r, u2 (u2 f 229 (rb r) (nI r)) 229 r (nI (rb r)), ?_, ?_, FR.last L D C, fun a x ha => by rw [w2_ne (by omega), w2_ne (by omega)]⟩
    · have h7' : u2 (u2 f 229 (rb r) (nI r)) 229 r (nI (rb r)) 227 7 = nI n := by
        rw [w2_ne (by omega), w2_ne (by omega)]
        exact h7
      rw [e113_4]
      simp (disch := omega) only [S.f, S.c (show r < 30 by omega), S.c (show rb r < 30 by omega), h7, show t < n by omega, neg_nI, hb, hm, cond_true, cond_false, bI_ok, bI_er, bV_ok, bV_er, bR_ok, bR_er, bD_ok, bD_er, bF_ok, bF_er, thr_ap, cl_nI, lt_nI, le_nI, eq_nI, m1_lt, nI_m1, m1_nI, nI_lt_m1, add_nI, sub_nI, addm_nI, z_addm, z_subm, mul_nI, fit1_0, fit1_1, fit2_n, HI_wI, HK_wI, HL_wI, HR_wI, ckK_wI, chI_wI, sI_wI, wI_wI, lz0, lz1, lz2, lz3, lz4, lz5, lz6, lz7, lz8, lz9, lz10, lz12, lz13, lz16, lz17, lz20, lz21, lz23, lz26, lz30, lz32, lz35, lz40, lz45, lz48, lz57, lz58, lz59, lz60, lz61, lz63, lz64, lz97, lz99, lz100, lz110, lz111, lz126, lz129, lz132, lz133, lz166, lz169, lz255, lz999, lz1183, lz1800, Nat.reduceAdd, Nat.reduceLT, Nat.reduceEqDiff, Nat.not_lt_zero, Nat.lt_irrefl, ↓reduceIte, Nat.zero_add, Nat.add_zero, ne_eq, not_true_eq_false, not_false_eq_true, reduceCtorEq]
      rw [e113_4]
      by_cases q : t + 1 < n <;> simp (disch := omega) only [S.f, h7', q, m1_lt0, cond_true, cond_false, bI_ok, bI_er, bV_ok, bV_er, bR_ok, bR_er, bD_ok, bD_er, bF_ok, bF_er, thr_ap, cl_nI, lt_nI, le_nI, eq_nI, m1_lt, nI_m1, m1_nI, nI_lt_m1, add_nI, sub_nI, addm_nI, z_addm, z_subm, mul_nI, fit1_0, fit1_1, fit2_n, HI_wI, HK_wI, HL_wI, HR_wI, ckK_wI, chI_wI, sI_wI, wI_wI, lz0, lz1, lz2, lz3, lz4, lz5, lz6, lz7, lz8, lz9, lz10, lz12, lz13, lz16, lz17, lz20, lz21, lz23, lz26, lz30, lz32, lz35, lz40, lz45, lz48, lz57, lz58, lz59, lz60, lz61, lz63, lz64, lz97, lz99, lz100, lz110, lz111, lz126, lz129, lz132, lz133, lz166, lz169, lz255, lz999, lz1183, lz1800, Nat.reduceAdd, Nat.reduceLT, Nat.reduceEqDiff, Nat.not_lt_zero, Nat.lt_irrefl, ↓reduceIte, Nat.zero_add, Nat.add_zero, ne_eq, not_true_eq_false, not_false_eq_true, reduceCtorEq]
    · have := M.flp nlr
      rw [hst] at this ⊢
      exact this
  | succ d ih =>
    intro m r t v w f h7 M hrb D C ht
    have he := C.e
    obtain ⟨l1, l2⟩ := L.1 _ _ he
    have hb : f 230 r = nI (rb r) := hrb r l2 he
    obtain ⟨b, hmb⟩ : ∃ b, m (rb r) = some b := by
      obtain ⟨_, b, h1, _⟩ := C
      exact ⟨b, h1⟩
    obtain ⟨g1, g2, g3, g4, g5, g6⟩ := flip_more L D C hmb
    have hm : f 229 (rb r) = nI b := by rw [M _ l1, hmb]; rfl
    have hbn : b < n := (L.1 _ _ g2.e).2
    obtain ⟨m', f', k1, k2, k3, k4⟩ := ih (flp m (rb r) r) b (t + 1) (.int (nI (rb r))) (.int (nI b)) (u2 (u2 f 229 (rb r) (nI r)) 229 r (nI (rb r))) (by rw [w2_ne (by omega), w2_ne (by omega)]; exact h7) (M.flp g5) (fun i hi hie => by rw [w2_ne (by omega), w2_ne (by omega)]; exact hrb i hi hie) g1 g2 (by omega)
    refine ⟨m', f', ?_, k2, FR.more L D C hmb k3, fun a x ha => by rw [k4 a x ha, w2_ne (by omega), w2_ne (by omega)]⟩
    rw [← k1, e113_4]
    simp (disch := omega) only [S.f, S.c (show r < 30 by omega), S.c (show rb r < 30 by omega), h7, show t < n by omega, neg_nI, hb, hm, cond_true, cond_false, bI_ok, bI_er, bV_ok, bV_er, bR_ok, bR_er, bD_ok, bD_er, bF_ok, bF_er, thr_ap, cl_nI, lt_nI, le_nI, eq_nI, m1_lt, nI_m1, m1_nI, nI_lt_m1, add_nI, sub_nI, addm_nI, z_addm, z_subm, mul_nI, fit1_0, fit1_1, fit2_n, HI_wI, HK_wI, HL_wI, HR_wI, ckK_wI, chI_wI, sI_wI, wI_wI, lz0, lz1, lz2, lz3, lz4, lz5, lz6, lz7, lz8, lz9, lz10, lz12, lz13, lz16, lz17, lz20, lz21, lz23, lz26, lz30, lz32, lz35, lz40, lz45, lz48, lz57, lz58, lz59, lz60, lz61, lz63, lz64, lz97, lz99, lz100, lz110, lz111, lz126, lz129, lz132, lz133, lz166, lz169, lz255, lz999, lz1183, lz1800, Nat.reduceAdd, Nat.reduceLT, Nat.reduceEqDiff, Nat.not_lt_zero, Nat.lt_irrefl, ↓reduceIte, Nat.zero_add, Nat.add_zero, ne_eq, not_true_eq_false, not_false_eq_true, reduceCtorEq]
end MG
