/-! THE OBJECTS MADE: a book, made -/
theorem HC_sR (h : Hp) (a k v : Nat) : HC (sR h a k v) = HC h := rfl
theorem HS_sR (h : Hp) (a k v : Nat) : HS (sR h a k v) = HS h := rfl
theorem HC_sI (h : Hp) (a k : Nat) (v : Int32) : HC (sI h a k v) = HC h := rfl
theorem HS_sI (h : Hp) (a k : Nat) (v : Int32) : HS (sI h a k v) = HS h := rfl
theorem HC_wI (h : Hp) (f : Nat → Nat → Int32) : HC (wI h f) = HC h := rfl
theorem HS_wI (h : Hp) (f : Nat → Nat → Int32) : HS (wI h f) = HS h := rfl
theorem HC_hnew (h : Hp) (k l : Nat) : HC (hnew h k l) = HC h + 1 := rfl
theorem HS_hnew (h : Hp) (k l : Nat) : HS (hnew h k l) = HS h + l := rfl
theorem pk_wI (h : Hp) (f : Nat → Nat → Int32) (a : Nat) : (wI h f).2.1 a = h.2.1 a := rfl
theorem pk_sI (h : Hp) (b k : Nat) (v : Int32) (a : Nat) : (sI h b k v).2.1 a = h.2.1 a := rfl
theorem pk_sR (h : Hp) (b k v : Nat) (a : Nat) : (sR h b k v).2.1 a = h.2.1 a := rfl
section GB4
variable {h : Hp} {t : Nat}
theorem gb8_nc : HN (mkK h t) = HN (gb6 h t) ∧ HC (mkK h t) = HC (gb6 h t) ∧ HS (mkK h t) = HS (gb6 h t) := by
  unfold mkK gb7
  rw [HN_wI, HC_wI, HS_wI, HN_sI, HC_sI, HS_sI]
  exact ⟨rfl, rfl, rfl⟩
theorem gb6_cs : HC (gb6 h t) = HC (gb4 h t) + 1 + 1 ∧ HS (gb6 h t) = HS (gb4 h t) + 3 + 7 := by
  unfold gb6 gb5
  rw [HC_sR, HC_hnew, HC_sR, HC_hnew, HS_sR, HS_hnew, HS_sR, HS_hnew]
  exact ⟨rfl, rfl⟩
theorem gb4_cs (hN : HN h = t + 1) : HC (gb4 h t) = HC (gb2 h t) + 1 + 3 ∧ HS (gb4 h t) = HS (gb2 h t) + 4 + 36 := by
  have w4 := mkB_w (h := hnew (gb2 h t) 1 4) (t := t + 11) (by rw [HN_hnew, gb2_n hN])
  unfold gb4
  rw [HC_sR, HS_sR, w4.2.1, w4.2.2.1, HC_hnew, HS_hnew]
  exact ⟨rfl, rfl⟩
theorem gb2_cs (hN : HN h = t + 1) : HC (gb2 h t) = HC h + 1 + 9 ∧ HS (gb2 h t) = HS h + 5 + 216 := by
  have w2 := mkT_w (h := hnew h 5 5) (t := t + 1) (by rw [HN_hnew, hN])
  unfold gb2
  rw [HC_sR, HS_sR, w2.2.1, w2.2.2.1, HC_hnew, HS_hnew]
  exact ⟨rfl, rfl⟩
theorem mkK_p (hN : HN h = t + 1) : (mkK h t).2.1 t = h.2.1 t := by
  unfold mkK gb7
  rw [pk_wI, pk_sI]
  exact gb6_p hN
theorem mkK_w (hN : HN h = t + 1) : Nw h (mkK h t) t 16 271 := by
  obtain ⟨x1, x2⟩ := gb2_cs hN
  obtain ⟨x3, x4⟩ := gb4_cs hN
  obtain ⟨x5, x6⟩ := gb6_cs (h := h) (t := t)
  obtain ⟨x7, x8, x9⟩ := gb8_nc (h := h) (t := t)
  have x10 := gb6_n hN
  refine ⟨by omega, by omega, by omega, fun a ha => ⟨?_, fun hat k => ?_⟩⟩
  · by_cases e : a = t
    · rw [e]
      exact mkK_p hN
    · exact ((gb0_m hN) a (by omega) (by omega)).1
  · exact ((gb0_m hN) a (by omega) (by omega)).2 k
end GB4
