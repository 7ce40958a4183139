/-! THE REFERENCE MADE: its cells -/
theorem ck_hnew {h : Hp} {t x : Nat} (hc : ckK h t x = true) (ht : t < HN h) (k l : Nat) : ckK (hnew h k l) t x = true := (ckK_hnew h ht).trans hc
def gm1 (h : Hp) (t : Nat) : Hp := sR (hnew h 100 169) t 0 (t + 1)
def gm2 (h : Hp) (t : Nat) : Hp := sR (hnew (gm1 h t) 100 169) t 1 (t + 2)
def gm3 (h : Hp) (t : Nat) : Hp := sR (hnew (gm2 h t) 100 169) t 2 (t + 3)
def gm4 (h : Hp) (t : Nat) : Hp := sR (hnew (gm3 h t) 100 1352) t 3 (t + 4)
def g4m (h : Hp) (t : Nat) : Hp := sI (sI (gm4 h t) t 6 (-1 : Int32)) t 7 (-1 : Int32)
def gm5 (h : Hp) (t : Nat) : Hp := sR (hnew (g4m h t) 100 30) t 8 (t + 5)
def gm6 (h : Hp) (t : Nat) : Hp := sR (hnew (gm5 h t) 100 30) t 9 (t + 6)
def gm7 (h : Hp) (t : Nat) : Hp := sR (hnew (gm6 h t) 100 30) t 10 (t + 7)
def gm8 (h : Hp) (t : Nat) : Hp := sR (hnew (gm7 h t) 100 30) t 11 (t + 8)
def gm9 (h : Hp) (t : Nat) : Hp := sR (hnew (gm8 h t) 100 60) t 12 (t + 9)
def gm10 (h : Hp) (t : Nat) : Hp := sR (hnew (gm9 h t) 100 160) t 14 (t + 10)
def gm11 (h : Hp) (t : Nat) : Hp := sR (hnew (gm10 h t) 100 120) t 21 (t + 11)
section GM
variable {h : Hp} {t : Nat}
theorem gm1_n (hN : HN h = t + 1) : HN (gm1 h t) = t + 2 := by
  unfold gm1
  rw [HN_sR, HN_hnew, hN]
theorem gm1_c (hc : ckK h t 9 = true) (hN : HN h = t + 1) : ckK (gm1 h t) t 9 = true := by
  unfold gm1
  rw [ckK_sR]
  exact ck_hnew hc (by omega) 100 169
theorem gm2_n (hN : HN h = t + 1) : HN (gm2 h t) = t + 3 := by
  unfold gm2
  rw [HN_sR, HN_hnew, gm1_n hN]
theorem gm2_c (hc : ckK h t 9 = true) (hN : HN h = t + 1) : ckK (gm2 h t) t 9 = true := by
  unfold gm2
  rw [ckK_sR]
  exact ck_hnew (gm1_c hc hN) (by rw [gm1_n hN]; omega) 100 169
theorem gm3_n (hN : HN h = t + 1) : HN (gm3 h t) = t + 4 := by
  unfold gm3
  rw [HN_sR, HN_hnew, gm2_n hN]
theorem gm3_c (hc : ckK h t 9 = true) (hN : HN h = t + 1) : ckK (gm3 h t) t 9 = true := by
  unfold gm3
  rw [ckK_sR]
  exact ck_hnew (gm2_c hc hN) (by rw [gm2_n hN]; omega) 100 169
theorem gm4_n (hN : HN h = t + 1) : HN (gm4 h t) = t + 5 := by
  unfold gm4
  rw [HN_sR, HN_hnew, gm3_n hN]
theorem gm4_c (hc : ckK h t 9 = true) (hN : HN h = t + 1) : ckK (gm4 h t) t 9 = true := by
  unfold gm4
  rw [ckK_sR]
  exact ck_hnew (gm3_c hc hN) (by rw [gm3_n hN]; omega) 100 1352
theorem g4m_n (hN : HN h = t + 1) : HN (g4m h t) = t + 5 := by
  unfold g4m
  rw [HN_sI, HN_sI, gm4_n hN]
theorem g4m_c (hc : ckK h t 9 = true) (hN : HN h = t + 1) : ckK (g4m h t) t 9 = true := by
  unfold g4m
  rw [ckK_sI, ckK_sI, gm4_c hc hN]
theorem gm5_n (hN : HN h = t + 1) : HN (gm5 h t) = t + 6 := by
  unfold gm5
  rw [HN_sR, HN_hnew, g4m_n hN]
theorem gm5_c (hc : ckK h t 9 = true) (hN : HN h = t + 1) : ckK (gm5 h t) t 9 = true := by
  unfold gm5
  rw [ckK_sR]
  exact ck_hnew (g4m_c hc hN) (by rw [g4m_n hN]; omega) 100 30
theorem gm6_n (hN : HN h = t + 1) : HN (gm6 h t) = t + 7 := by
  unfold gm6
  rw [HN_sR, HN_hnew, gm5_n hN]
theorem gm6_c (hc : ckK h t 9 = true) (hN : HN h = t + 1) : ckK (gm6 h t) t 9 = true := by
  unfold gm6
  rw [ckK_sR]
  exact ck_hnew (gm5_c hc hN) (by rw [gm5_n hN]; omega) 100 30
theorem gm7_n (hN : HN h = t + 1) : HN (gm7 h t) = t + 8 := by
  unfold gm7
  rw [HN_sR, HN_hnew, gm6_n hN]
theorem gm7_c (hc : ckK h t 9 = true) (hN : HN h = t + 1) : ckK (gm7 h t) t 9 = true := by
  unfold gm7
  rw [ckK_sR]
  exact ck_hnew (gm6_c hc hN) (by rw [gm6_n hN]; omega) 100 30
theorem gm8_n (hN : HN h = t + 1) : HN (gm8 h t) = t + 9 := by
  unfold gm8
  rw [HN_sR, HN_hnew, gm7_n hN]
theorem gm8_c (hc : ckK h t 9 = true) (hN : HN h = t + 1) : ckK (gm8 h t) t 9 = true := by
  unfold gm8
  rw [ckK_sR]
  exact ck_hnew (gm7_c hc hN) (by rw [gm7_n hN]; omega) 100 30
theorem gm9_n (hN : HN h = t + 1) : HN (gm9 h t) = t + 10 := by
  unfold gm9
  rw [HN_sR, HN_hnew, gm8_n hN]
theorem gm9_c (hc : ckK h t 9 = true) (hN : HN h = t + 1) : ckK (gm9 h t) t 9 = true := by
  unfold gm9
  rw [ckK_sR]
  exact ck_hnew (gm8_c hc hN) (by rw [gm8_n hN]; omega) 100 60
theorem gm10_n (hN : HN h = t + 1) : HN (gm10 h t) = t + 11 := by
  unfold gm10
  rw [HN_sR, HN_hnew, gm9_n hN]
theorem gm10_c (hc : ckK h t 9 = true) (hN : HN h = t + 1) : ckK (gm10 h t) t 9 = true := by
  unfold gm10
  rw [ckK_sR]
  exact ck_hnew (gm9_c hc hN) (by rw [gm9_n hN]; omega) 100 160
theorem gm11_n (hN : HN h = t + 1) : HN (gm11 h t) = t + 12 := by
  unfold gm11
  rw [HN_sR, HN_hnew, gm10_n hN]
theorem gm11_c (hc : ckK h t 9 = true) (hN : HN h = t + 1) : ckK (gm11 h t) t 9 = true := by
  unfold gm11
  rw [ckK_sR]
  exact ck_hnew (gm10_c hc hN) (by rw [gm10_n hN]; omega) 100 120
theorem gm1_s (hN : HN h = t + 1) : sR (hnew h 100 169) t 0 (HN h) = gm1 h t := by
  unfold gm1
  rw [hN]
theorem gm2_s (hN : HN h = t + 1) : sR (hnew (gm1 h t) 100 169) t 1 (HN (gm1 h t)) = gm2 h t := by
  unfold gm2
  rw [gm1_n hN]
theorem gm3_s (hN : HN h = t + 1) : sR (hnew (gm2 h t) 100 169) t 2 (HN (gm2 h t)) = gm3 h t := by
  unfold gm3
  rw [gm2_n hN]
theorem gm4_s (hN : HN h = t + 1) : sR (hnew (gm3 h t) 100 1352) t 3 (HN (gm3 h t)) = gm4 h t := by
  unfold gm4
  rw [gm3_n hN]
theorem gm5_s (hN : HN h = t + 1) : sR (hnew (g4m h t) 100 30) t 8 (HN (g4m h t)) = gm5 h t := by
  unfold gm5
  rw [g4m_n hN]
theorem gm6_s (hN : HN h = t + 1) : sR (hnew (gm5 h t) 100 30) t 9 (HN (gm5 h t)) = gm6 h t := by
  unfold gm6
  rw [gm5_n hN]
theorem gm7_s (hN : HN h = t + 1) : sR (hnew (gm6 h t) 100 30) t 10 (HN (gm6 h t)) = gm7 h t := by
  unfold gm7
  rw [gm6_n hN]
theorem gm8_s (hN : HN h = t + 1) : sR (hnew (gm7 h t) 100 30) t 11 (HN (gm7 h t)) = gm8 h t := by
  unfold gm8
  rw [gm7_n hN]
theorem gm9_s (hN : HN h = t + 1) : sR (hnew (gm8 h t) 100 60) t 12 (HN (gm8 h t)) = gm9 h t := by
  unfold gm9
  rw [gm8_n hN]
theorem gm10_s (hN : HN h = t + 1) : sR (hnew (gm9 h t) 100 160) t 14 (HN (gm9 h t)) = gm10 h t := by
  unfold gm10
  rw [gm9_n hN]
theorem gm11_s (hN : HN h = t + 1) : sR (hnew (gm10 h t) 100 120) t 21 (HN (gm10 h t)) = gm11 h t := by
  unfold gm11
  rw [gm10_n hN]
theorem sz30 : (decide ((0 : Int32) ≤ (30 : Int32)) && decide ((30 : Int32) ≤ 100000)) = true := by decide
theorem nz30 : (30 : Int32).toNatClampNeg = 30 := by decide
theorem sz60 : (decide ((0 : Int32) ≤ (60 : Int32)) && decide ((60 : Int32) ≤ 100000)) = true := by decide
theorem nz60 : (60 : Int32).toNatClampNeg = 60 := by decide
theorem sz120 : (decide ((0 : Int32) ≤ (120 : Int32)) && decide ((120 : Int32) ≤ 100000)) = true := by decide
theorem nz120 : (120 : Int32).toNatClampNeg = 120 := by decide
theorem sz160 : (decide ((0 : Int32) ≤ (160 : Int32)) && decide ((160 : Int32) ≤ 100000)) = true := by decide
theorem nz160 : (160 : Int32).toNatClampNeg = 160 := by decide
theorem sz169 : (decide ((0 : Int32) ≤ (169 : Int32)) && decide ((169 : Int32) ≤ 100000)) = true := by decide
theorem nz169 : (169 : Int32).toNatClampNeg = 169 := by decide
theorem sz1352 : (decide ((0 : Int32) ≤ (1352 : Int32)) && decide ((1352 : Int32) ≤ 100000)) = true := by decide
theorem nz1352 : (1352 : Int32).toNatClampNeg = 1352 := by decide
theorem mkM_ok (hk : HK h t = 9) (hN : HN h = t + 1) : CL 202 [.ref t] h = RF 202 109 [.ref t, .int (0 : Int32)] [] (gm11 h t) := by
  have hc := ck_of hk
  rw [e202, ini_ok hk (by decide)]
  dsimp only
  rw [sz30, nz30, sz60, nz60, sz120, nz120, sz160, nz160, sz169, nz169, sz1352, nz1352]
  rw [ck_hnew hc (by omega) 100 169, gm1_s hN]
  rw [ck_hnew (gm1_c hc hN) (by rw [gm1_n hN]; omega) 100 169, gm2_s hN]
  rw [ck_hnew (gm2_c hc hN) (by rw [gm2_n hN]; omega) 100 169, gm3_s hN]
  rw [ck_hnew (gm3_c hc hN) (by rw [gm3_n hN]; omega) 100 1352, gm4_s hN]
  rw [gm4_c hc hN, ckK_sI, gm4_c hc hN]
  rw [show sI (sI (gm4 h t) t 6 (-1 : Int32)) t 7 (-1 : Int32) = g4m h t from rfl]
  rw [ck_hnew (g4m_c hc hN) (by rw [g4m_n hN]; omega) 100 30, gm5_s hN]
  rw [ck_hnew (gm5_c hc hN) (by rw [gm5_n hN]; omega) 100 30, gm6_s hN]
  rw [ck_hnew (gm6_c hc hN) (by rw [gm6_n hN]; omega) 100 30, gm7_s hN]
  rw [ck_hnew (gm7_c hc hN) (by rw [gm7_n hN]; omega) 100 30, gm8_s hN]
  rw [ck_hnew (gm8_c hc hN) (by rw [gm8_n hN]; omega) 100 60, gm9_s hN]
  rw [ck_hnew (gm9_c hc hN) (by rw [gm9_n hN]; omega) 100 160, gm10_s hN]
  rw [ck_hnew (gm10_c hc hN) (by rw [gm10_n hN]; omega) 100 120, gm11_s hN]
  rfl
end GM
