/-! THE OBJECTS MADE: the program, its cells -/
def gp1 (h : Hp) (t : Nat) : Hp := sR (hnew h 101 60) t 0 (t + 1)
def gp2 (h : Hp) (t : Nat) : Hp := sI (gp1 h t) t 1 (0 : Int32)
def gp3 (h : Hp) (t : Nat) : Hp := sR (hnew (gp2 h t) 100 60) t 2 (t + 2)
def gp4 (h : Hp) (t : Nat) : Hp := sR (hnew (gp3 h t) 101 60) t 3 (t + 3)
def gp5 (h : Hp) (t : Nat) : Hp := sR (hnew (gp4 h t) 100 60) t 4 (t + 4)
def gp6 (h : Hp) (t : Nat) : Hp := sR (hnew (gp5 h t) 100 60) t 5 (t + 5)
def mkP (h : Hp) (t : Nat) : Hp := sI (sI (gp6 h t) t 6 (0 : Int32)) t 7 (0 : Int32)
section GP
variable {h : Hp} {t : Nat}
theorem gp1_n (hN : HN h = t + 1) : HN (gp1 h t) = t + 2 := by
  unfold gp1
  rw [HN_sR, HN_hnew, hN]
theorem gp1_c (hc : ckK h t 7 = true) (hN : HN h = t + 1) : ckK (gp1 h t) t 7 = true := by
  unfold gp1
  rw [ckK_sR]
  exact ck_hnew hc (by omega) 101 60
theorem gp1_s (hN : HN h = t + 1) : sR (hnew h 101 60) t 0 (HN h) = gp1 h t := by
  unfold gp1
  rw [hN]
theorem gp2_n (hN : HN h = t + 1) : HN (gp2 h t) = t + 2 := by
  unfold gp2
  rw [HN_sI, gp1_n hN]
theorem gp2_c (hc : ckK h t 7 = true) (hN : HN h = t + 1) : ckK (gp2 h t) t 7 = true := by
  unfold gp2
  rw [ckK_sI]
  exact (gp1_c hc hN)
theorem gp3_n (hN : HN h = t + 1) : HN (gp3 h t) = t + 3 := by
  unfold gp3
  rw [HN_sR, HN_hnew, gp2_n hN]
theorem gp3_c (hc : ckK h t 7 = true) (hN : HN h = t + 1) : ckK (gp3 h t) t 7 = true := by
  unfold gp3
  rw [ckK_sR]
  exact ck_hnew (gp2_c hc hN) (by rw [gp2_n hN]; omega) 100 60
theorem gp3_s (hN : HN h = t + 1) : sR (hnew (gp2 h t) 100 60) t 2 (HN (gp2 h t)) = gp3 h t := by
  unfold gp3
  rw [gp2_n hN]
theorem gp4_n (hN : HN h = t + 1) : HN (gp4 h t) = t + 4 := by
  unfold gp4
  rw [HN_sR, HN_hnew, gp3_n hN]
theorem gp4_c (hc : ckK h t 7 = true) (hN : HN h = t + 1) : ckK (gp4 h t) t 7 = true := by
  unfold gp4
  rw [ckK_sR]
  exact ck_hnew (gp3_c hc hN) (by rw [gp3_n hN]; omega) 101 60
theorem gp4_s (hN : HN h = t + 1) : sR (hnew (gp3 h t) 101 60) t 3 (HN (gp3 h t)) = gp4 h t := by
  unfold gp4
  rw [gp3_n hN]
theorem gp5_n (hN : HN h = t + 1) : HN (gp5 h t) = t + 5 := by
  unfold gp5
  rw [HN_sR, HN_hnew, gp4_n hN]
theorem gp5_c (hc : ckK h t 7 = true) (hN : HN h = t + 1) : ckK (gp5 h t) t 7 = true := by
  unfold gp5
  rw [ckK_sR]
  exact ck_hnew (gp4_c hc hN) (by rw [gp4_n hN]; omega) 100 60
theorem gp5_s (hN : HN h = t + 1) : sR (hnew (gp4 h t) 100 60) t 4 (HN (gp4 h t)) = gp5 h t := by
  unfold gp5
  rw [gp4_n hN]
theorem gp6_n (hN : HN h = t + 1) : HN (gp6 h t) = t + 6 := by
  unfold gp6
  rw [HN_sR, HN_hnew, gp5_n hN]
theorem gp6_c (hc : ckK h t 7 = true) (hN : HN h = t + 1) : ckK (gp6 h t) t 7 = true := by
  unfold gp6
  rw [ckK_sR]
  exact ck_hnew (gp5_c hc hN) (by rw [gp5_n hN]; omega) 100 60
theorem gp6_s (hN : HN h = t + 1) : sR (hnew (gp5 h t) 100 60) t 5 (HN (gp5 h t)) = gp6 h t := by
  unfold gp6
  rw [gp5_n hN]
theorem mkP_ok (hk : HK h t = 7) (hN : HN h = t + 1) : CL 4 [.ref t] h = some (.ok .null, mkP h t) := by
  have hc := ck_of hk
  rw [e4, ini_ok hk (by decide)]
  dsimp only
  rw [sz60, nz60]
  rw [ck_hnew hc (by omega) 101 60, gp1_s hN]
  rw [gp1_c hc hN, show sI (gp1 h t) t 1 (0 : Int32) = gp2 h t from rfl]
  rw [ck_hnew (gp2_c hc hN) (by rw [gp2_n hN]; omega) 100 60, gp3_s hN]
  rw [ck_hnew (gp3_c hc hN) (by rw [gp3_n hN]; omega) 101 60, gp4_s hN]
  rw [ck_hnew (gp4_c hc hN) (by rw [gp4_n hN]; omega) 100 60, gp5_s hN]
  rw [ck_hnew (gp5_c hc hN) (by rw [gp5_n hN]; omega) 100 60, gp6_s hN]
  rw [gp6_c hc hN, ckK_sI, gp6_c hc hN]
  rfl
end GP
