/-! WORDS, AND THE TEXT READ: what a program is -/
def KoS (h : Hp) : Prop := ∀ a, 2 ≤ a → a < 30 → h.2.1 a = kcT 0 a ∧ ∀ k, HR h a k = rcT a k
def Ko (f : Nat → Nat → Int32) : Prop := ∀ a, 2 ≤ a → a < 30 → ∀ k, f a k = icT (fun _ => 0) a k
/-- the words' characters and lengths -/
def lch (a i : Nat) : Nat := ((litA.getD ((a - 4) / 2) []).getD i 0).toNatClampNeg
def lln (a : Nat) : Nat := (litA.getD ((a - 4) / 2) []).length
theorem litc_all : ∀ j, j < 13 → (litA.getD j []).length < 64 ∧ ∀ i, i < (litA.getD j []).length → (litA.getD j []).getD i 0 = Int32.ofNat ((litA.getD j []).getD i 0).toNatClampNeg ∧ ((litA.getD j []).getD i 0).toNatClampNeg < 128 := by decide +kernel
theorem len_sh : ∀ n, n < 64 → (Int32.ofNat n >>> ((0 : Int32) &&& 31)) = Int32.ofNat n := by decide
theorem and255 : ∀ n, n < 128 → (Int32.ofNat n &&& 255) = Int32.ofNat n := by decide
section WO
variable {h : Hp} {f : Nat → Nat → Int32}
theorem strLen_ok (K : KoS h) (F : Ko f) {a : Nat} (h1 : 4 ≤ a) (h2 : a < 30) (h3 : a % 2 = 0) : CL 91 [.ref a] (wI h f) = some (.ok (.int (nI (lln a))), wI h f) := by
  obtain ⟨k1, k2⟩ := K a (by omega) h2
  obtain ⟨k3, k4⟩ := K (a + 1) (by omega) (by omega)
  have hk : HK h a = 11 := by
    show (h.2.1 a).1 = 11
    rw [k1]
    unfold kcT
    rw [if_neg (by omega), if_neg (by omega), if_pos h2, if_pos h3]
  have hk1 : HK h (a + 1) = 203 ∧ HL h (a + 1) = lln a := by
    have e : h.2.1 (a + 1) = (203, lln a) := by
      rw [k3]
      unfold kcT lln
      rw [if_neg (by omega), if_neg (by omega), if_pos (by omega), if_neg (by omega), show (a + 1 - 5) / 2 = (a - 4) / 2 by omega]
    exact ⟨congrArg Prod.fst e, congrArg Prod.snd e⟩
  have hr : HR h a 0 = a + 1 := by
    rw [k2]
    unfold rcT
    rw [if_neg (by omega), if_pos h2, if_pos ⟨h3, rfl⟩]
  have hc : f a 1 = 0 := by
    rw [F a (by omega) h2]
    unfold icT
    rw [if_neg (by omega), if_neg (by omega), if_neg (by omega), if_pos h2, if_pos h3]
  have hck : ckK h a 11 = true := ck_of hk
  have hal : Nat.ble 100 (HK h (a + 1)) = true := al_of hk1.1 (by decide)
  have hl := (litc_all ((a - 4) / 2) (by omega)).1
  have hsh : (Int32.ofNat (lln a) >>> ((0 : Int32) &&& 31)) = nI (lln a) := len_sh _ hl
  have h90 : CL 90 [.ref a] (wI h f) = some (.ok (.int 0), wI h f) := by
    rw [e90]
    simp only [HI_wI, ckK_wI, hck, hc]
    rfl
  rw [e91]
  simp only [HK_wI, HR_wI, HL_wI, ckK_wI, hck, hr, hal, hk1.2, h90, bI_ok, cond_true, hsh]
theorem charAt_ok (K : KoS h) (F : Ko f) {a i : Nat} (h1 : 4 ≤ a) (h2 : a < 30) (h3 : a % 2 = 0) (hi : i < lln a) : CL 164 [.ref a, .int (nI i)] (wI h f) = some (.ok (.int (nI (lch a i))), wI h f) := by
  obtain ⟨k1, k2⟩ := K a (by omega) h2
  obtain ⟨k3, k4⟩ := K (a + 1) (by omega) (by omega)
  have hk : HK h a = 11 := by
    show (h.2.1 a).1 = 11
    rw [k1]
    unfold kcT
    rw [if_neg (by omega), if_neg (by omega), if_pos h2, if_pos h3]
  have hk1 : HK h (a + 1) = 203 ∧ HL h (a + 1) = lln a := by
    have e : h.2.1 (a + 1) = (203, lln a) := by
      rw [k3]
      unfold kcT lln
      rw [if_neg (by omega), if_neg (by omega), if_pos (by omega), if_neg (by omega), show (a + 1 - 5) / 2 = (a - 4) / 2 by omega]
    exact ⟨congrArg Prod.fst e, congrArg Prod.snd e⟩
  have hr : HR h a 0 = a + 1 := by
    rw [k2]
    unfold rcT
    rw [if_neg (by omega), if_pos h2, if_pos ⟨h3, rfl⟩]
  have hc : f a 1 = 0 := by
    rw [F a (by omega) h2]
    unfold icT
    rw [if_neg (by omega), if_neg (by omega), if_neg (by omega), if_pos h2, if_pos h3]
  obtain ⟨hl, hch⟩ := litc_all ((a - 4) / 2) (by omega)
  obtain ⟨c1, c2⟩ := hch i hi
  have hv : f (a + 1) i = nI (lch a i) := by
    rw [F (a + 1) (by omega) (by omega)]
    unfold icT
    rw [if_neg (by omega), if_neg (by omega), if_neg (by omega), if_pos (by omega), if_neg (by omega), show (a + 1 - 5) / 2 = (a - 4) / 2 by omega]
    exact c1
  have hv2 : (nI (lch a i) &&& (255 : Int32)) = nI (lch a i) := and255 _ c2
  have hck : ckK h a 11 = true := ck_of hk
  have hal : Nat.ble 100 (HK h (a + 1)) = true := al_of hk1.1 (by decide)
  have hchI : chI h (a + 1) 203 (nI i) = true := chI_nI hk1.1 hk1.2 hi (by unfold lln; omega)
  have hl' : lln a < 64 := hl
  have h162 : CL 162 [.ref a] (wI h f) = some (.ok (.int 1), wI h f) := by
    rw [e162]
    simp only [HI_wI, ckK_wI, hck, hc]
    rfl
  have h131 : CL 131 [.int (nI i), .int (Int32.ofNat (lln a))] (wI h f) = some (.ok .null, wI h f) := by
    show CL 131 [.int (nI i), .int (nI (lln a))] (wI h f) = some (.ok .null, wI h f)
    rw [e131, e130]
    simp (disch := omega) only [neg_nI, hi, cond_true, cond_false, bI_ok, bI_er, bV_ok, bV_er, bR_ok, bR_er, bD_ok, bD_er, bF_ok, bF_er, thr_ap, cl_nI, lt_nI, le_nI, eq_nI, m1_lt, nI_m1, m1_nI, nI_lt_m1, add_nI, sub_nI, addm_nI, z_addm, z_subm, mul_nI, fit1_0, fit1_1, fit2_n, HI_wI, HK_wI, HL_wI, HR_wI, ckK_wI, chI_wI, sI_wI, wI_wI, lz0, lz1, lz2, lz3, lz4, lz5, lz6, lz7, lz8, lz9, lz10, lz12, lz13, lz16, lz17, lz20, lz21, lz23, lz26, lz30, lz32, lz35, lz40, lz45, lz48, lz57, lz58, lz59, lz60, lz61, lz63, lz64, lz97, lz99, lz100, lz110, lz111, lz126, lz129, lz132, lz133, lz166, lz169, lz255, lz999, lz1183, lz1800, Nat.reduceAdd, Nat.reduceLT, Nat.reduceEqDiff, Nat.not_lt_zero, Nat.lt_irrefl, ↓reduceIte, Nat.zero_add, Nat.add_zero, ne_eq, not_true_eq_false, not_false_eq_true, reduceCtorEq]
  have hc128 : lch a i < 128 := c2
  have h163 : CL 163 [.ref (a + 1), .int (nI i)] (wI h f) = some (.ok (.int (nI (lch a i))), wI h f) := by
    rw [e163]
    simp only [HK_wI, HL_wI, hal, hk1.2, h131, bV_ok, cond_true, chI_wI, hchI, HI_wI, cl_nI (show i < 2147483648 by omega), hv, hv2, i2c_nI (show lch a i < 65536 by omega), fit2_n (show lch a i < 65536 by omega)]
  have hz : ¬((1 : Int32) = 0) := by decide
  rw [e164]
  simp only [ckK_wI, hck, cond_true, h162, bI_ok, hz, if_false, HR_wI, hr, h163, fit2_n (show lch a i < 65536 by omega)]
end WO
/-- how far the word at a goes on like the text from p -/
def cmm (x : Nat → Nat) (n p a : Nat) : Nat := (fst? (fun i => !decide (p + i < n ∧ x (p + i) = lch a i)) (lln a)).getD (lln a)
def kwA (x : Nat → Nat) (n p : Nat) : Option Nat := fst? (fun w => decide (cmm x n p (12 + 2 * w) = lln (12 + 2 * w))) 7
def lgA (x : Nat → Nat) (n p : Nat) : Nat → Nat
  | 0 => 0
  | w + 1 => if lgA x n p w < cmm x n p (12 + 2 * w) then cmm x n p (12 + 2 * w) else lgA x n p w
def isD (x : Nat → Nat) (n p : Nat) : Bool := decide (p < n ∧ 48 ≤ x p ∧ x p ≤ 57)
def dgA (x : Nat → Nat) (n : Nat) : Nat → Nat → Nat → Nat × Nat
  | 0, p, v => (v, p)
  | k + 1, p, v => if isD x n p then dgA x n k (p + 1) (v * 10 + (x p - 48)) else (v, p)
def numA' (x : Nat → Nat) (n most p : Nat) : Option (Nat × Nat) := if isD x n p then some (dgA x n (most - 1) (p + 1) (x p - 48)) else none
abbrev Cm : Type := Nat × Nat × Nat × Nat
def cmdA (x : Nat → Nat) (n p : Nat) : Except Nat (Cm × Nat) := match kwA x n p with
  | none => .error (p + lgA x n p 7)
  | some w => if w = 2 ∨ w = 3 then .ok ((w, 0, 0, 0), p + lln (12 + 2 * w))
    else if w = 6 then (match numA' x n 2 (p + lln (12 + 2 * w)) with
      | none => .error (p + lln (12 + 2 * w))
      | some r => .ok ((6, 0, 0, r.1), r.2))
    else if p + lln (12 + 2 * w) < n ∧ 97 ≤ x (p + lln (12 + 2 * w)) ∧ x (p + lln (12 + 2 * w)) ≤ 99 then (match numA' x n 3 (p + lln (12 + 2 * w) + 1) with
      | none => .error (p + lln (12 + 2 * w) + 1)
      | some r => if 2 ≤ w then .ok ((w, x (p + lln (12 + 2 * w)) - 97, r.1, 0), r.2)
        else if r.2 < n ∧ x r.2 = 61 then (match numA' x n 2 (r.2 + 1) with
          | none => .error (r.2 + 1)
          | some r' => .ok ((w, x (p + lln (12 + 2 * w)) - 97, r.1, r'.1), r'.2))
        else .error r.2)
    else .error (p + lln (12 + 2 * w))
def prsG (cm : Nat → Except Nat (Cm × Nat)) (x : Nat → Nat) (n : Nat) : Nat → Nat → Nat → (Nat → Cm) → Except Nat (Nat × (Nat → Cm))
  | 0, p, _, _ => .error p
  | k + 1, p, i, C => match cm p with
    | .error e => .error e
    | .ok r => if r.2 < n then (if x r.2 = 59 then prsG cm x n k (r.2 + 1) (i + 1) (ud C i r.1) else .error r.2) else .ok (i + 1, ud C i r.1)
theorem prsG_e {cm : Nat → Except Nat (Cm × Nat)} {x : Nat → Nat} {n k p i e : Nat} {C : Nat → Cm} (h : cm p = .error e) : prsG cm x n (k + 1) p i C = .error e := by
  simp only [prsG, h]
theorem prsG_o {cm : Nat → Except Nat (Cm × Nat)} {x : Nat → Nat} {n k p i : Nat} {C : Nat → Cm} {r : Cm × Nat} (h : cm p = .ok r) : prsG cm x n (k + 1) p i C = if r.2 < n then (if x r.2 = 59 then prsG cm x n k (r.2 + 1) (i + 1) (ud C i r.1) else .error r.2) else .ok (i + 1, ud C i r.1) := by
  simp only [prsG, h]
def prsA (x : Nat → Nat) (n : Nat) : Nat → Nat → Nat → (Nat → Cm) → Except Nat (Nat × (Nat → Cm)) := prsG (cmdA x n) x n
theorem dgA_b {x : Nat → Nat} {n : Nat} : ∀ {k p v M : Nat}, v < M → p ≤ n → (dgA x n k p v).1 < M * 10 ^ k ∧ p ≤ (dgA x n k p v).2 ∧ (dgA x n k p v).2 ≤ n
  | 0, p, v, M, hv, hp => by
    simp only [dgA, Nat.pow_zero, Nat.mul_one]
    exact ⟨hv, Nat.le_refl p, hp⟩
  | k + 1, p, v, M, hv, hp => by
    simp only [dgA]
    by_cases q : isD x n p = true
    · rw [if_pos q]
      have hq := of_decide_eq_true q
      obtain ⟨h1, h2, h3⟩ := dgA_b (x := x) (n := n) (k := k) (p := p + 1) (v := v * 10 + (x p - 48)) (M := M * 10) (by omega) (by omega)
      refine ⟨?_, by omega, h3⟩
      rw [Nat.pow_succ, Nat.mul_comm (10 ^ k), ← Nat.mul_assoc]
      exact h1
    · rw [if_neg q]
      refine ⟨?_, Nat.le_refl p, hp⟩
      have : 1 ≤ 10 ^ (k + 1) := Nat.one_le_pow _ _ (by decide)
      exact Nat.lt_of_lt_of_le hv (Nat.le_mul_of_pos_right M (by omega))
theorem numA_b {x : Nat → Nat} {n most p : Nat} {r : Nat × Nat} (hm : 1 ≤ most) (h : numA' x n most p = some r) : r.1 < 10 ^ most ∧ p < r.2 ∧ r.2 ≤ n := by
  unfold numA' at h
  by_cases q : isD x n p = true
  · rw [if_pos q] at h
    cases h
    have hq := of_decide_eq_true q
    obtain ⟨h1, h2, h3⟩ := dgA_b (x := x) (n := n) (k := most - 1) (p := p + 1) (v := x p - 48) (M := 10) (by omega) (by omega)
    refine ⟨?_, by omega, h3⟩
    have e : 10 ^ most = 10 * 10 ^ (most - 1) := by
      rw [show most = (most - 1) + 1 by omega, Nat.pow_succ, Nat.mul_comm, Nat.add_sub_cancel]
    rw [e]
    exact h1
  · rw [if_neg q] at h
    cases h
theorem cmm_le (x : Nat → Nat) (n p a : Nat) : cmm x n p a ≤ lln a := by
  unfold cmm
  cases hq : fst? (fun i => !decide (p + i < n ∧ x (p + i) = lch a i)) (lln a) with
  | none => exact Nat.le_refl _
  | some i =>
    have := (fst_some.mp hq).1
    show i ≤ lln a
    omega
theorem cmm_n {x : Nat → Nat} {n p a : Nat} (hp : p ≤ n) : p + cmm x n p a ≤ n := by
  unfold cmm
  cases hq : fst? (fun i => !decide (p + i < n ∧ x (p + i) = lch a i)) (lln a) with
  | none =>
    have h := fst_none.mp hq
    show p + lln a ≤ n
    by_cases q : lln a = 0
    · omega
    · have := h (lln a - 1) (by omega)
      rw [Bool.not_eq_false'] at this
      have := of_decide_eq_true this
      omega
  | some i =>
    obtain ⟨h1, h2, h3⟩ := fst_some.mp hq
    show p + i ≤ n
    by_cases q : i = 0
    · omega
    · have := h3 (i - 1) (by omega)
      rw [Bool.not_eq_false'] at this
      have := of_decide_eq_true this
      omega
theorem lgA_n {x : Nat → Nat} {n p : Nat} (hp : p ≤ n) : ∀ w, p + lgA x n p w ≤ n ∧ lgA x n p w < 64
  | 0 => ⟨hp, by show 0 < 64; decide⟩
  | w + 1 => by
    obtain ⟨h1, h2⟩ := lgA_n (x := x) hp w
    simp only [lgA]
    split
    · have h3 := cmm_n (x := x) (a := 12 + 2 * w) hp
      have h4 := cmm_le x n p (12 + 2 * w)
      refine ⟨h3, ?_⟩
      have h5 : lln (12 + 2 * w) < 64 := by
        by_cases q : (12 + 2 * w - 4) / 2 < 13
        · exact (litc_all _ q).1
        · unfold lln
          have : litA.length = 13 := by decide
          rw [List.getD_eq_getElem?_getD, List.getElem?_eq_none (by omega)]
          decide
      omega
    · exact ⟨h1, h2⟩
