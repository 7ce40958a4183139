/-! THE OBJECTS MADE: the line -/
def mkL (h : Hp) (t : Nat) : Hp := sI (sR (hnew h 102 16) t 0 (t + 1)) t 1 (nI 0)
theorem sz16 : (decide ((0 : Int32) ≤ (16 : Int32)) && decide ((16 : Int32) ≤ 100000)) = true := by decide
theorem nz16 : (16 : Int32).toNatClampNeg = 16 := by decide
theorem fz3 : fitc 3 (0 : Int32) = true := by decide
theorem mkL_ok {h : Hp} {t : Nat} (hk : HK h t = 10) (hN : HN h = t + 1) : CL 8 [.ref t] h = some (.ok .null, mkL h t) := by
  have hck := ck_of hk
  have l1 : t < HN h := by omega
  have e : CL 7 [.ref t, .int (16 : Int32)] h = some (.ok .null, mkL h t) := by
    rw [e7, ini_ok hk (by decide), if_neg (show ¬((1 : Int32) = 0) by decide)]
    dsimp only
    rw [sz16, nz16, hN, ckK_sR, ckK_hnew h l1, hck, fz3]
    simp only [cond_true, ckK_sR, ckK_sI, ckK_hnew h l1, hck, lz0, mkL]
  rw [e8, hck, e]
  rfl
theorem mkL_k {h : Hp} {t : Nat} (hN : HN h = t + 1) (a : Nat) : (mkL h t).2.1 a = if a = t + 1 then (102, 16) else h.2.1 a := by
  have hN' : h.1.1 = t + 1 := hN
  unfold mkL
  simp only [sI, sR, hnew, HN, HI, HR, hN']
theorem mkL_i {h : Hp} {t : Nat} (hN : HN h = t + 1) (a k : Nat) : HI (mkL h t) a k = if a = t + 1 ∨ (a = t ∧ k = 1) then nI 0 else HI h a k := by
  have hN' : h.1.1 = t + 1 := hN
  unfold mkL
  simp only [sI, sR, hnew, HN, HI, HR, u2, u1, hN']
  repeat' split
  all_goals first | rfl | omega
theorem mkL_r {h : Hp} {t : Nat} (hN : HN h = t + 1) (a k : Nat) : HR (mkL h t) a k = if a = t ∧ k = 0 then t + 1 else if a = t + 1 then 0 else HR h a k := by
  have hN' : h.1.1 = t + 1 := hN
  unfold mkL
  simp only [sI, sR, hnew, HN, HI, HR, u2, u1, hN']

