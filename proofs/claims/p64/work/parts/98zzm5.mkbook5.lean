/-! THE OBJECTS MADE: a book, its making -/
section GB5
variable {h : Hp} {t : Nat}
theorem mkK_ok (hk : HK h t = 2) (hN : HN h = t + 1) : CL 2 [.ref t] h = some (.ok .null, mkK h t) := by
  have c2 : ckK (mkT (hnew h 5 5) (t + 1)) t 2 = true := by
    have := ck_of ((gb2_k hN).trans hk)
    unfold gb2 at this
    rw [ckK_sR] at this
    exact this
  have c4 : ckK (mkB (hnew (gb2 h t) 1 4) (t + 11)) t 2 = true := by
    have := ck_of ((gb4_k hN).trans hk)
    unfold gb4 at this
    rw [ckK_sR] at this
    exact this
  have c5 : ckK (hnew (gb4 h t) 100 3) t 2 = true := ck_hnew (ck_of ((gb4_k hN).trans hk)) (by rw [gb4_n hN]; omega) 100 3
  have c6 : ckK (hnew (gb5 h t) 100 7) t 2 = true := ck_hnew (ck_of ((gb5_k hN).trans hk)) (by rw [gb5_n hN]; omega) 100 7
  have c7 : ckK (gb6 h t) t 2 = true := ck_of ((gb6_k hN).trans hk)
  have c8 : ckK (gb7 h t) t 2 = true := by
    unfold gb7
    rw [ckK_sI]
    exact c7
  have r7 : HR (gb7 h t) t 2 = t + 15 := by
    rw [gb7_R]
    exact (gb6_r hN (by decide)).trans gb5_r2
  have k7 : HK (gb7 h t) (t + 15) = 100 := ((m15 hN).hk (by omega) (by omega)).trans (new_k (gb4 h t) 100 3 (gb4_n hN))
  have l7 : HL (gb7 h t) (t + 15) = 3 := ((m15 hN).hl (by omega) (by omega)).trans (new_l (gb4 h t) 100 3 (gb4_n hN))
  have f2 : sR (mkT (hnew h 5 5) (t + 1)) t 0 (t + 1) = gb2 h t := by unfold gb2; rfl
  have f4 : sR (mkB (hnew (gb2 h t) 1 4) (t + 11)) t 1 (t + 11) = gb4 h t := by unfold gb4; rfl
  have f5 : sR (hnew (gb4 h t) 100 3) t 2 (t + 15) = gb5 h t := by unfold gb5; rfl
  have f6 : sR (hnew (gb5 h t) 100 7) t 3 (t + 16) = gb6 h t := by unfold gb6; rfl
  have f7 : sI (gb6 h t) t 4 (nI 0) = gb7 h t := by unfold gb7; rfl
  rw [e2, ini_ok hk (by decide)]
  try dsimp only
  rw [sz3, nz3, sz7, nz7, hN, ck_of (new_k h 5 5 hN), mkT_ok (new_k h 5 5 hN) (by rw [HN_hnew, hN]), bV_ok]
  try dsimp only
  rw [c2, f2, gb2_n hN, ck_of (new_k _ 1 4 (gb2_n hN)), mkB_ok (new_k _ 1 4 (gb2_n hN)) (by rw [HN_hnew, gb2_n hN]), bV_ok]
  try dsimp only
  rw [c4, f4, gb4_n hN, c5, f5, gb5_n hN, c6, f6, c7, lz0, f7]
  simp only [cond_true]
  rw [mkK_loop c8 r7 k7 l7]
  unfold mkK
  rfl
end GB5
