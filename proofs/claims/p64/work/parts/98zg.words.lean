/-! WORDS, AND THE TEXT READ: what a program is -/
def KoS (h : Hp) : Prop := ∀ a, 2 ≤ a → a < 30 → h.2.1 a = kcT 0 a ∧ ∀ k, HR h a k = rcT a k
def Ko (f : Nat → Nat → Int32) : Prop := ∀ a, 2 ≤ a → a < 30 → ∀ k, f a k = icT (fun _ => 0) a k
/-- the words' characters and lengths -/
def lch (a i : Nat) : Nat := ((litA.getD ((a - 4) / 2) []).getD i 0).toNatClampNeg
def lln (a : Nat) : Nat := (litA.getD ((a - 4) / 2) []).length
theorem litc_all : ∀ j, j < 13 → (litA.getD j []).length < 64 ∧ ∀ i, i < (litA.getD j []).length → (litA.getD j []).getD i 0 = Int32.ofNat ((litA.getD j []).getD i 0).toNatClampNeg ∧ ((litA.getD j []).getD i 0).toNatClampNeg < 128 := by decide +kernel
theorem len_sh : ∀ n, n < 64 → (Int32.ofNat n >>> ((0 : Int32) &&& 31)) = Int32.ofNat n := by decide
theorem and255 : ∀ n, n < 128 → (Int32.ofNat n &&& 255) = Int32.ofNat n := by decide
section WO
variable {h : Hp} {f : Nat → Nat → Int32}
theorem strLen_ok (K : KoS h) (F : Ko f) {a : Nat} (h1 : 4 ≤ a) (h2 : a < 30) (h3 : a % 2 = 0) : CL 91 [.ref a] (wI h f) = some (.ok (.int (nI (lln a))), wI h f) := by
  obtain ⟨k1, k2⟩ := K a (by omega) h2
  obtain ⟨k3, k4⟩ := K (a + 1) (by omega) (by omega)
  have hk : HK h a = 11 := by
    show (h.2.1 a).1 = 11
    rw [k1]
    unfold kcT
    rw [if_neg (by omega), if_neg (by omega), if_pos h2, if_pos h3]
  have hk1 : HK h (a + 1) = 203 ∧ HL h (a + 1) = lln a := by
    have e : h.2.1 (a + 1) = (203, lln a) := by
      rw [k3]
      unfold kcT lln
      rw [if_neg (by omega), if_neg (by omega), if_pos (by omega), if_neg (by omega), show (a + 1 - 5) / 2 = (a - 4) / 2 by omega]
    exact ⟨congrArg Prod.fst e, congrArg Prod.snd e⟩
  have hr : HR h a 0 = a + 1 := by
    rw [k2]
    unfold rcT
    rw [if_neg (by omega), if_pos h2, if_pos ⟨h3, rfl⟩]
  have hc : f a 1 = 0 := by
    rw [F a (by omega) h2]
    unfold icT
    rw [if_neg (by omega), if_neg (by omega), if_neg (by omega), if_pos h2, if_pos h3]
  have hck : ckK h a 11 = true := ck_of hk
  have hcs : ckS h a = true := by
    unfold ckS
    rw [hck]
    rfl
  have hcw : ckS (wI h f) a = true := hcs
  have hal : Nat.ble 100 (HK h (a + 1)) = true := al_of hk1.1 (by decide)
  have hl := (litc_all ((a - 4) / 2) (by omega)).1
  have hsh : (Int32.ofNat (lln a) >>> ((0 : Int32) &&& 31)) = nI (lln a) := len_sh _ hl
  have h90 : CL 90 [.ref a] (wI h f) = some (.ok (.int 0), wI h f) := by
    rw [e90]
    simp only [HI_wI, ckK_wI, hck, hc, hcw, hcs]
    rfl
  rw [e91]
  simp only [HK_wI, HR_wI, HL_wI, ckK_wI, hck, hcw, hcs, hr, hal, hk1.2, h90, bI_ok, cond_true, hsh]
theorem ckS_11 {h : Hp} {a : Nat} (q : ckK h a 11 = true) : ckS h a = true := by
  unfold ckS
  rw [q]
  rfl
theorem ckS_9 {h : Hp} {a : Nat} (q : ckK h a 9 = true) : ckS h a = true := by
  unfold ckS
  rw [q]
  exact Bool.or_true _
theorem ckS_wI (h : Hp) (f : Nat → Nat → Int32) (a : Nat) : ckS (wI h f) a = ckS h a := rfl
end WO
