/-! THE OBJECTS MADE: a book, made -/
section GB4
variable {h : Hp} {t : Nat}
theorem mkK_ok (hk : HK h t = 2) (hN : HN h = t + 1) : CL 2 [.ref t] h = some (.ok .null, mkK h t) := by
  have c2 : ckK (mkT (hnew h 5 5) (t + 1)) t 2 = true := by
    have := ck_of ((gb2_k hN).trans hk)
    unfold gb2 at this
    rw [ckK_sR] at this
    exact this
  have c4 : ckK (mkB (hnew (gb2 h t) 1 4) (t + 11)) t 2 = true := by
    have := ck_of ((gb4_k hN).trans hk)
    unfold gb4 at this
    rw [ckK_sR] at this
    exact this
  have c5 : ckK (hnew (gb4 h t) 100 3) t 2 = true := ck_hnew (ck_of ((gb4_k hN).trans hk)) (by rw [gb4_n hN]; omega) 100 3
  have c6 : ckK (hnew (gb5 h t) 100 7) t 2 = true := ck_hnew (ck_of ((gb5_k hN).trans hk)) (by rw [gb5_n hN]; omega) 100 7
  have c7 : ckK (gb6 h t) t 2 = true := ck_of ((gb6_k hN).trans hk)
  have c8 : ckK (gb7 h t) t 2 = true := by
    unfold gb7
    rw [ckK_sI]
    exact c7
  have r7 : HR (gb7 h t) t 2 = t + 15 := by
    rw [gb7_R]
    exact (gb6_r hN (by decide)).trans gb5_r2
  have k7 : HK (gb7 h t) (t + 15) = 100 := ((m15 hN).hk (by omega) (by omega)).trans (new_k (gb4 h t) 100 3 (gb4_n hN))
  have l7 : HL (gb7 h t) (t + 15) = 3 := ((m15 hN).hl (by omega) (by omega)).trans (new_l (gb4 h t) 100 3 (gb4_n hN))
  have f2 : sR (mkT (hnew h 5 5) (t + 1)) t 0 (t + 1) = gb2 h t := by unfold gb2; rfl
  have f4 : sR (mkB (hnew (gb2 h t) 1 4) (t + 11)) t 1 (t + 11) = gb4 h t := by unfold gb4; rfl
  have f5 : sR (hnew (gb4 h t) 100 3) t 2 (t + 15) = gb5 h t := by unfold gb5; rfl
  have f6 : sR (hnew (gb5 h t) 100 7) t 3 (t + 16) = gb6 h t := by unfold gb6; rfl
  have f7 : sI (gb6 h t) t 4 (nI 0) = gb7 h t := by unfold gb7; rfl
  rw [e2, ini_ok hk (by decide)]
  dsimp only
  rw [sz3, nz3, sz7, nz7, hN, ck_of (new_k h 5 5 hN), mkT_ok (new_k h 5 5 hN) (by rw [HN_hnew, hN]), bV_ok]
  dsimp only
  rw [c2, f2, gb2_n hN, ck_of (new_k _ 1 4 (gb2_n hN)), mkB_ok (new_k _ 1 4 (gb2_n hN)) (by rw [HN_hnew, gb2_n hN]), bV_ok]
  dsimp only
  rw [c4, f4, gb4_n hN, c5, f5, gb5_n hN, c6, f6, c7, lz0, f7]
  simp only [cond_true]
  rw [mkK_loop c8 r7 k7 l7]
  unfold mkK
  rfl
theorem gb8_nc : HN (mkK h t) = HN (gb6 h t) ∧ HC (mkK h t) = HC (gb6 h t) ∧ HS (mkK h t) = HS (gb6 h t) := by
  unfold mkK gb7
  exact ⟨rfl, rfl, rfl⟩
theorem gb6_cs : HC (gb6 h t) = HC (gb4 h t) + 1 + 1 ∧ HS (gb6 h t) = HS (gb4 h t) + 3 + 7 := by
  unfold gb6 gb5
  exact ⟨rfl, rfl⟩
theorem gb4_cs (hN : HN h = t + 1) : HC (gb4 h t) = HC (gb2 h t) + 1 + 3 ∧ HS (gb4 h t) = HS (gb2 h t) + 4 + 36 := by
  have w4 := mkB_w (h := hnew (gb2 h t) 1 4) (t := t + 11) (by rw [HN_hnew, gb2_n hN])
  unfold gb4
  exact ⟨w4.2.1, w4.2.2.1⟩
theorem gb2_cs (hN : HN h = t + 1) : HC (gb2 h t) = HC h + 1 + 9 ∧ HS (gb2 h t) = HS h + 5 + 216 := by
  have w2 := mkT_w (h := hnew h 5 5) (t := t + 1) (by rw [HN_hnew, hN])
  unfold gb2
  exact ⟨w2.2.1, w2.2.2.1⟩
theorem mkK_p (hN : HN h = t + 1) : (mkK h t).2.1 t = h.2.1 t := by
  unfold mkK gb7
  exact gb6_p hN
theorem mkK_w (hN : HN h = t + 1) : Nw h (mkK h t) t 16 271 := by
  obtain ⟨x1, x2⟩ := gb2_cs hN
  obtain ⟨x3, x4⟩ := gb4_cs hN
  obtain ⟨x5, x6⟩ := gb6_cs (h := h) (t := t)
  obtain ⟨x7, x8, x9⟩ := gb8_nc (h := h) (t := t)
  have x10 := gb6_n hN
  refine ⟨by omega, by omega, by omega, fun a ha => ⟨?_, fun hat k => ?_⟩⟩
  · by_cases e : a = t
    · rw [e]
      exact mkK_p hN
    · exact ((gb0_m hN) a (by omega) (by omega)).1
  · exact ((gb0_m hN) a (by omega) (by omega)).2 k
end GB4
