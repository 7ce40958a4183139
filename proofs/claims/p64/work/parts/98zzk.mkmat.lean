/-! THE OBJECTS MADE: the matching, its cells -/
def gx1 (h : Hp) (t : Nat) : Hp := sR (hnew h 100 30) t 0 (t + 1)
def gx2 (h : Hp) (t : Nat) : Hp := sR (hnew (gx1 h t) 100 30) t 1 (t + 2)
def gx3 (h : Hp) (t : Nat) : Hp := sR (hnew (gx2 h t) 100 30) t 2 (t + 3)
def gx4 (h : Hp) (t : Nat) : Hp := sR (hnew (gx3 h t) 100 30) t 3 (t + 4)
def gx5 (h : Hp) (t : Nat) : Hp := sR (hnew (gx4 h t) 100 30) t 4 (t + 5)
def gx6 (h : Hp) (t : Nat) : Hp := sR (hnew (gx5 h t) 100 30) t 5 (t + 6)
def gx7 (h : Hp) (t : Nat) : Hp := sR (hnew (gx6 h t) 100 30) t 6 (t + 7)
section GX
variable {h : Hp} {t : Nat}
theorem gx1_n (hN : HN h = t + 1) : HN (gx1 h t) = t + 2 := by
  unfold gx1
  rw [HN_sR, HN_hnew, hN]
theorem gx1_c (hc : ckK h t 6 = true) (hN : HN h = t + 1) : ckK (gx1 h t) t 6 = true := by
  unfold gx1
  rw [ckK_sR]
  exact ck_hnew hc (by omega) 100 30
theorem gx1_s (hN : HN h = t + 1) : sR (hnew h 100 30) t 0 (HN h) = gx1 h t := by
  unfold gx1
  rw [hN]
theorem gx2_n (hN : HN h = t + 1) : HN (gx2 h t) = t + 3 := by
  unfold gx2
  rw [HN_sR, HN_hnew, gx1_n hN]
theorem gx2_c (hc : ckK h t 6 = true) (hN : HN h = t + 1) : ckK (gx2 h t) t 6 = true := by
  unfold gx2
  rw [ckK_sR]
  exact ck_hnew (gx1_c hc hN) (by rw [gx1_n hN]; omega) 100 30
theorem gx2_s (hN : HN h = t + 1) : sR (hnew (gx1 h t) 100 30) t 1 (HN (gx1 h t)) = gx2 h t := by
  unfold gx2
  rw [gx1_n hN]
theorem gx3_n (hN : HN h = t + 1) : HN (gx3 h t) = t + 4 := by
  unfold gx3
  rw [HN_sR, HN_hnew, gx2_n hN]
theorem gx3_c (hc : ckK h t 6 = true) (hN : HN h = t + 1) : ckK (gx3 h t) t 6 = true := by
  unfold gx3
  rw [ckK_sR]
  exact ck_hnew (gx2_c hc hN) (by rw [gx2_n hN]; omega) 100 30
theorem gx3_s (hN : HN h = t + 1) : sR (hnew (gx2 h t) 100 30) t 2 (HN (gx2 h t)) = gx3 h t := by
  unfold gx3
  rw [gx2_n hN]
theorem gx4_n (hN : HN h = t + 1) : HN (gx4 h t) = t + 5 := by
  unfold gx4
  rw [HN_sR, HN_hnew, gx3_n hN]
theorem gx4_c (hc : ckK h t 6 = true) (hN : HN h = t + 1) : ckK (gx4 h t) t 6 = true := by
  unfold gx4
  rw [ckK_sR]
  exact ck_hnew (gx3_c hc hN) (by rw [gx3_n hN]; omega) 100 30
theorem gx4_s (hN : HN h = t + 1) : sR (hnew (gx3 h t) 100 30) t 3 (HN (gx3 h t)) = gx4 h t := by
  unfold gx4
  rw [gx3_n hN]
theorem gx5_n (hN : HN h = t + 1) : HN (gx5 h t) = t + 6 := by
  unfold gx5
  rw [HN_sR, HN_hnew, gx4_n hN]
theorem gx5_c (hc : ckK h t 6 = true) (hN : HN h = t + 1) : ckK (gx5 h t) t 6 = true := by
  unfold gx5
  rw [ckK_sR]
  exact ck_hnew (gx4_c hc hN) (by rw [gx4_n hN]; omega) 100 30
theorem gx5_s (hN : HN h = t + 1) : sR (hnew (gx4 h t) 100 30) t 4 (HN (gx4 h t)) = gx5 h t := by
  unfold gx5
  rw [gx4_n hN]
theorem gx6_n (hN : HN h = t + 1) : HN (gx6 h t) = t + 7 := by
  unfold gx6
  rw [HN_sR, HN_hnew, gx5_n hN]
theorem gx6_c (hc : ckK h t 6 = true) (hN : HN h = t + 1) : ckK (gx6 h t) t 6 = true := by
  unfold gx6
  rw [ckK_sR]
  exact ck_hnew (gx5_c hc hN) (by rw [gx5_n hN]; omega) 100 30
theorem gx6_s (hN : HN h = t + 1) : sR (hnew (gx5 h t) 100 30) t 5 (HN (gx5 h t)) = gx6 h t := by
  unfold gx6
  rw [gx5_n hN]
theorem gx7_n (hN : HN h = t + 1) : HN (gx7 h t) = t + 8 := by
  unfold gx7
  rw [HN_sR, HN_hnew, gx6_n hN]
theorem gx7_c (hc : ckK h t 6 = true) (hN : HN h = t + 1) : ckK (gx7 h t) t 6 = true := by
  unfold gx7
  rw [ckK_sR]
  exact ck_hnew (gx6_c hc hN) (by rw [gx6_n hN]; omega) 100 30
theorem gx7_s (hN : HN h = t + 1) : sR (hnew (gx6 h t) 100 30) t 6 (HN (gx6 h t)) = gx7 h t := by
  unfold gx7
  rw [gx6_n hN]
def mkX (h : Hp) (t : Nat) : Hp := sI (sI (gx7 h t) t 7 (0 : Int32)) t 8 (-1 : Int32)
theorem mkX_ok (hk : HK h t = 6) (hN : HN h = t + 1) : CL 5 [.ref t] h = some (.ok .null, mkX h t) := by
  have hc := ck_of hk
  rw [e5, ini_ok hk (by decide)]
  dsimp only
  rw [sz30, nz30]
  rw [ck_hnew hc (by omega) 100 30, gx1_s hN]
  rw [ck_hnew (gx1_c hc hN) (by rw [gx1_n hN]; omega) 100 30, gx2_s hN]
  rw [ck_hnew (gx2_c hc hN) (by rw [gx2_n hN]; omega) 100 30, gx3_s hN]
  rw [ck_hnew (gx3_c hc hN) (by rw [gx3_n hN]; omega) 100 30, gx4_s hN]
  rw [ck_hnew (gx4_c hc hN) (by rw [gx4_n hN]; omega) 100 30, gx5_s hN]
  rw [ck_hnew (gx5_c hc hN) (by rw [gx5_n hN]; omega) 100 30, gx6_s hN]
  rw [ck_hnew (gx6_c hc hN) (by rw [gx6_n hN]; omega) 100 30, gx7_s hN]
  rw [gx7_c hc hN, ckK_sI, gx7_c hc hN]
  rfl
end GX
