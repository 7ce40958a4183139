/-! THE OBJECTS MADE: a book, its cells -/
section GB2
variable {h : Hp} {t : Nat}
theorem m16 : Sm (hnew (gb5 h t) 100 7) (mkK h t) (t + 16) (t + 17) := (Sm.sR _ t 3 _ (by omega)).trans ((gb7_m (by omega)).trans (gb8_m (by omega)))
theorem m15 (hN : HN h = t + 1) : Sm (hnew (gb4 h t) 100 3) (gb7 h t) (t + 1) (t + 16) := (Sm.sR _ t 2 _ (by omega)).trans ((gb6_m hN (by omega) (by omega)).trans (gb7_m (by omega)))
theorem gb8_R : HR (mkK h t) = HR (gb6 h t) := by
  unfold mkK
  rw [HR_wI]
  unfold gb7
  rw [sI_wI, HR_wI]
theorem gb7_R : HR (gb7 h t) = HR (gb6 h t) := by
  unfold gb7
  rw [sI_wI, HR_wI]
theorem gb8_K (a : Nat) : HK (mkK h t) a = HK (gb6 h t) a := by
  unfold mkK
  rw [HK_wI]
  unfold gb7
  rw [sI_wI, HK_wI]
theorem gb8_K7 (a : Nat) : HK (mkK h t) a = HK (gb7 h t) a := by
  unfold mkK
  rw [HK_wI]
theorem gb8_L7 (a : Nat) : HL (mkK h t) a = HL (gb7 h t) a := by
  unfold mkK
  rw [HL_wI]
theorem gb2_r0 : HR (gb2 h t) t 0 = t + 1 := sR_at _ t 0 _
theorem gb4_r1 : HR (gb4 h t) t 1 = t + 11 := sR_at _ t 1 _
theorem gb5_r2 : HR (gb5 h t) t 2 = t + 15 := sR_at _ t 2 _
theorem gb6_r3 : HR (gb6 h t) t 3 = t + 16 := sR_at _ t 3 _
theorem mkK_S (hk : HK h t = 2) (hN : HN h = t + 1) : BkS (mkK h t) t := by
  refine ⟨?_, ?_, ?_, ?_, ?_, ?_, ?_, ⟨?_, ?_⟩, ⟨?_, ?_⟩⟩
  · rw [gb8_K]
    exact (gb6_k hN).trans hk
  · rw [gb8_R]
    exact (gb6_r hN (by decide)).trans ((gb5_r hN (by decide)).trans ((gb4_r hN (by decide)).trans gb2_r0))
  · rw [gb8_R]
    exact (gb6_r hN (by decide)).trans ((gb5_r hN (by decide)).trans gb4_r1)
  · rw [gb8_R]
    exact (gb6_r hN (by decide)).trans gb5_r2
  · rw [gb8_R]
    exact gb6_r3
  · exact (mkT_S (h := hnew h 5 5) (t := t + 1) (new_k h 5 5 hN) (by rw [HN_hnew, hN])).sm (gbT_m hN) (by omega) (by omega)
  · exact (mkB_S (h := hnew (gb2 h t) 1 4) (t := t + 11) (new_k _ 1 4 (gb2_n hN)) (by rw [HN_hnew, gb2_n hN])).sm (gbB_m hN) (by omega) (by omega)
  · rw [gb8_K7]
    exact ((m15 hN).hk (by omega) (by omega)).trans (new_k (gb4 h t) 100 3 (gb4_n hN))
  · rw [gb8_L7]
    exact ((m15 hN).hl (by omega) (by omega)).trans (new_l (gb4 h t) 100 3 (gb4_n hN))
  · exact ((m16 (h := h)).hk (by omega) (by omega)).trans (new_k (gb5 h t) 100 7 (gb5_n hN))
  · exact ((m16 (h := h)).hl (by omega) (by omega)).trans (new_l (gb5 h t) 100 7 (gb5_n hN))
end GB2
