/-! THE OBJECTS MADE: a book, empty -/
section GB3
theorem HI_sR (h : Hp) (a k v : Nat) : HI (sR h a k v) = HI h := rfl
theorem HI_sIf (h : Hp) (a k : Nat) (v : Int32) : HI (sI h a k v) = u2 (HI h) a k v := rfl
variable {h : Hp} {t : Nat}
theorem gb2_I : HI (gb2 h t) = HI (mkT (hnew h 5 5) (t + 1)) := by
  unfold gb2
  rw [HI_sR]
theorem gb4_I : HI (gb4 h t) = HI (mkB (hnew (gb2 h t) 1 4) (t + 11)) := by
  unfold gb4
  rw [HI_sR]
theorem gb5_I : HI (gb5 h t) = HI (hnew (gb4 h t) 100 3) := by
  unfold gb5
  rw [HI_sR]
theorem gb6_I : HI (gb6 h t) = HI (hnew (gb5 h t) 100 7) := by
  unfold gb6
  rw [HI_sR]
theorem gb7_I : HI (gb7 h t) = u2 (HI (gb6 h t)) t 4 (nI 0) := by
  unfold gb7
  rw [HI_sIf]
theorem gb8_I : HI (mkK h t) = u2 (u2 (u2 (HI (gb7 h t)) (t + 15) 0 (nI 5)) (t + 15) 1 (nI 5)) (t + 15) 2 (nI 5) := by
  unfold mkK
  rw [HI_wI]
theorem u2_no {f : Nat → Nat → Int32} {a k : Nat} {v : Int32} {b i : Nat} (q : ¬(b = a ∧ i = k)) : u2 f a k v b i = f b i := if_neg q
theorem u2_at (f : Nat → Nat → Int32) (a k : Nat) (v : Int32) : u2 f a k v a k = v := if_pos ⟨rfl, rfl⟩
theorem gb2_z (hN : HN h = t + 1) (hz : ∀ k, HI h t k = nI 0) (a k : Nat) (x : t ≤ a) (y : a < t + 11) : HI (gb2 h t) a k = nI 0 := by
  rw [gb2_I, mkT_i (by rw [HN_hnew, hN])]
  split
  · rfl
  · by_cases e : a = t + 1
    · subst e
      exact new_i h 5 5 hN k
    · have e' : a = t := by omega
      subst e'
      exact ((Sm.new h 5 5 (lo := 0) (hi := a + 1) (by omega)).ii (by omega) (by omega) k).trans (hz k)
theorem gb4_z (hN : HN h = t + 1) (hz : ∀ k, HI h t k = nI 0) (a k : Nat) (x : t ≤ a) (y : a < t + 15) : HI (gb4 h t) a k = nI 0 := by
  rw [gb4_I, mkB_i (by rw [HN_hnew, gb2_n hN])]
  split
  · rfl
  · by_cases e : a = t + 11
    · subst e
      exact new_i _ 1 4 (gb2_n hN) k
    · exact ((Sm.new (gb2 h t) 1 4 (lo := 0) (hi := t + 11) (by rw [gb2_n hN]; omega)).ii (by omega) (by omega) k).trans (gb2_z hN hz a k x (by omega))
theorem gb5_z (hN : HN h = t + 1) (hz : ∀ k, HI h t k = nI 0) (a k : Nat) (x : t ≤ a) (y : a < t + 16) : HI (gb5 h t) a k = nI 0 := by
  rw [gb5_I]
  by_cases e : a = t + 15
  · subst e
    exact new_i _ 100 3 (gb4_n hN) k
  · exact ((Sm.new (gb4 h t) 100 3 (lo := 0) (hi := t + 15) (by rw [gb4_n hN]; omega)).ii (by omega) (by omega) k).trans (gb4_z hN hz a k x (by omega))
theorem gb6_z (hN : HN h = t + 1) (hz : ∀ k, HI h t k = nI 0) (a k : Nat) (x : t ≤ a) (y : a < t + 17) : HI (gb6 h t) a k = nI 0 := by
  rw [gb6_I]
  by_cases e : a = t + 16
  · subst e
    exact new_i _ 100 7 (gb5_n hN) k
  · exact ((Sm.new (gb5 h t) 100 7 (lo := 0) (hi := t + 16) (by rw [gb5_n hN]; omega)).ii (by omega) (by omega) k).trans (gb5_z hN hz a k x (by omega))
theorem gb7_z (hN : HN h = t + 1) (hz : ∀ k, HI h t k = nI 0) (a k : Nat) (x : t ≤ a) (y : a < t + 17) : HI (gb7 h t) a k = nI 0 := by
  rw [gb7_I]
  by_cases e : a = t ∧ k = 4
  · rw [e.1, e.2]
    exact u2_at _ _ _ _
  · exact (u2_no e).trans (gb6_z hN hz a k x y)
theorem mkK_R (hN : HN h = t + 1) (hz : ∀ k, HI h t k = nI 0) : RK (HI (mkK h t)) t bk0 := by
  rw [gb8_I]
  refine RK0 (fun a k x y z => ?_) (fun k hk => ?_)
  · rw [u2_no (by omega), u2_no (by omega), u2_no (by omega)]
    exact gb7_z hN hz a k x y
  · have e : k = 0 ∨ k = 1 ∨ k = 2 := by omega
    rcases e with rfl | rfl | rfl
    · rw [u2_no (by omega), u2_no (by omega)]
      exact u2_at _ _ _ _
    · rw [u2_no (by omega)]
      exact u2_at _ _ _ _
    · exact u2_at _ _ _ _
end GB3
