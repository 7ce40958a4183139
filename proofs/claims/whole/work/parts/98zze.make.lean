/-! THE OBJECTS MADE: a table, a batch -/
/-- n new cells; of the old ones at most t has changed -/
def Nw (h h' : Hp) (t n s : Nat) : Prop := HN h' = HN h + n ∧ HC h' = HC h + n ∧ HS h' = HS h + s ∧ ∀ a, a < HN h → h'.2.1 a = h.2.1 a ∧ (a ≠ t → ∀ k, HI h' a k = HI h a k ∧ HR h' a k = HR h a k)
theorem HN_sR (h : Hp) (a k v : Nat) : HN (sR h a k v) = HN h := rfl
theorem HN_sI (h : Hp) (a k : Nat) (v : Int32) : HN (sI h a k v) = HN h := rfl
theorem HN_hnew (h : Hp) (k l : Nat) : HN (hnew h k l) = HN h + 1 := rfl
theorem HN_hnew2 (h : Hp) (n m : Nat) : HN (hnew2 h n m) = HN h + (1 + n) := rfl
theorem ckK_sR (h : Hp) (a k v b x : Nat) : ckK (sR h a k v) b x = ckK h b x := rfl
theorem ckK_sI (h : Hp) (a k : Nat) (v : Int32) (b x : Nat) : ckK (sI h a k v) b x = ckK h b x := rfl
theorem ckK_hnew (h : Hp) {k l b x : Nat} (q : b < HN h) : ckK (hnew h k l) b x = ckK h b x := by
  unfold ckK HK
  rw [hnew_k h k l b (by omega)]
theorem hnew2_k (h : Hp) {n m a : Nat} (q : a < HN h) : (hnew2 h n m).2.1 a = h.2.1 a := by
  show (if a = HN h then (106, n) else if HN h < a ∧ a ≤ HN h + n then (100, m) else h.2.1 a) = h.2.1 a
  rw [if_neg (by omega), if_neg (by omega)]
theorem ckK_hnew2 (h : Hp) {n m b x : Nat} (q : b < HN h) : ckK (hnew2 h n m) b x = ckK h b x := by
  unfold ckK HK
  rw [hnew2_k h q]
theorem ini_ok {h : Hp} {t x : Nat} (hk : HK h t = x) (h0 : 0 < x) : (Nat.blt 0 (HK h t) && Nat.ble (wgt []) 8) = true := by
  rw [hk, Bool.and_eq_true]
  exact ⟨Nat.ble_eq.mpr h0, rfl⟩
def mkT (h : Hp) (t : Nat) : Hp := sI (sI (sR (hnew2 (sR (hnew2 (sR (hnew h 100 30) t 0 (t + 1)) 3 30) t 1 (t + 2)) 3 30) t 2 (t + 6)) t 3 (nI 0)) t 4 (nI 0)
theorem mkT_ok {h : Hp} {t : Nat} (hk : HK h t = 5) (hN : HN h = t + 1) : CL 0 [.ref t] h = some (.ok .null, mkT h t) := by
  have hck := ck_of hk
  have s1 : (decide ((0 : Int32) ≤ (30 : Int32)) && decide ((30 : Int32) ≤ 100000)) = true := by decide
  have s2 : (decide ((0 : Int32) ≤ (3 : Int32)) && decide ((3 : Int32) ≤ 100) && decide ((0 : Int32) ≤ (30 : Int32)) && decide ((30 : Int32) ≤ 100)) = true := by decide
  have n30 : (30 : Int32).toNatClampNeg = 30 := by decide
  have n3 : (3 : Int32).toNatClampNeg = 3 := by decide
  have l1 : t < HN h := by omega
  have l2 : t < HN (sR (hnew h 100 30) t 0 (t + 1)) := by
    rw [HN_sR, HN_hnew]
    omega
  have l3 : t < HN (sR (hnew2 (sR (hnew h 100 30) t 0 (t + 1)) 3 30) t 1 (t + 2)) := by
    rw [HN_sR, HN_hnew2, HN_sR, HN_hnew]
    omega
  rw [e0, ini_ok hk (by decide)]
  simp only [s1, s2, n30, n3, cond_true, hN, HN_sR, HN_hnew, HN_hnew2, ckK_sR, ckK_sI, ckK_hnew h l1, ckK_hnew2 _ l2, ckK_hnew2 _ l3, hck, lz0]
  rfl
