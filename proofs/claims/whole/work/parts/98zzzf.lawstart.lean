/-! THE LAW: its start -/
section SM4
variable {h h' : Hp} {lo hi : Nat}
theorem RrS.sm (S : RrS h) (G : Sm h h' 0 241) : RrS h' := by
  obtain ⟨a1, a2, a3, a4, a5, a6, a7, a8, a9, b1, b2, b3, ⟨c1, c2⟩, ⟨d1, d2⟩, e⟩ := S
  refine ⟨(G.hk (by omega) (by omega)).trans a1, (G.hr (by omega) (by omega) _).trans a2, (G.hr (by omega) (by omega) _).trans a3, (G.hr (by omega) (by omega) _).trans a4, (G.hr (by omega) (by omega) _).trans a5, (G.hr (by omega) (by omega) _).trans a6, (G.hr (by omega) (by omega) _).trans a7, (G.hr (by omega) (by omega) _).trans a8, (G.hr (by omega) (by omega) _).trans a9, b1.sm G (by omega) (by omega), b2.sm G (by omega) (by omega), b3.sm G (by omega) (by omega), ⟨(G.hk (by omega) (by omega)).trans c1, (G.hr (by omega) (by omega) _).trans c2⟩, ⟨?_, (G.hl (by omega) (by omega)).trans d2⟩, fun i hi => ⟨(G.hr (by omega) (by omega) _).trans (e i hi).1, (e i hi).2.sm G (by omega) (by omega)⟩⟩
  rw [G.hk (a := 84) (by omega) (by omega)]
  exact d1
theorem MdS.sm (S : MdS h) (G : Sm h h' 0 253) : MdS h' := by
  obtain ⟨a, ⟨b1, b2, b3, b4, b5, b6, b7, b8, b9, b10, b11⟩, ⟨c1, c2⟩, ⟨d1, d2⟩, ⟨e1, e2⟩, ⟨f1, f2⟩, ⟨g1, g2⟩, ⟨i1, i2⟩, ⟨j1, j2⟩, ⟨k1, k2⟩, ⟨l1, l2⟩, ⟨m1, m2⟩, n1, n2⟩ := S
  have r : ∀ i, HR h' 241 i = HR h 241 i := fun i => G.hr (by omega) (by omega) i
  exact ⟨(G.hk (by omega) (by omega)).trans a, ⟨(r _).trans b1, (r _).trans b2, (r _).trans b3, (r _).trans b4, (r _).trans b5, (r _).trans b6, (r _).trans b7, (r _).trans b8, (r _).trans b9, (r _).trans b10, (r _).trans b11⟩, ⟨(G.hk (by omega) (by omega)).trans c1, (G.hl (by omega) (by omega)).trans c2⟩, ⟨(G.hk (by omega) (by omega)).trans d1, (G.hl (by omega) (by omega)).trans d2⟩, ⟨(G.hk (by omega) (by omega)).trans e1, (G.hl (by omega) (by omega)).trans e2⟩, ⟨(G.hk (by omega) (by omega)).trans f1, (G.hl (by omega) (by omega)).trans f2⟩, ⟨(G.hk (by omega) (by omega)).trans g1, (G.hl (by omega) (by omega)).trans g2⟩, ⟨(G.hk (by omega) (by omega)).trans i1, (G.hl (by omega) (by omega)).trans i2⟩, ⟨(G.hk (by omega) (by omega)).trans j1, (G.hl (by omega) (by omega)).trans j2⟩, ⟨(G.hk (by omega) (by omega)).trans k1, (G.hl (by omega) (by omega)).trans k2⟩, ⟨(G.hk (by omega) (by omega)).trans l1, (G.hl (by omega) (by omega)).trans l2⟩, ⟨(G.hk (by omega) (by omega)).trans m1, (G.hl (by omega) (by omega)).trans m2⟩, (G.hk (by omega) (by omega)).trans n1, (G.hl (by omega) (by omega)).trans n2⟩
end SM4
theorem kcT_lo (L : Nat) {a : Nat} (h : a < 30) : kcT L a = kcT 0 a := by
  unfold kcT
  by_cases h1 : a < 2
  · rw [if_pos h1, if_pos h1]
  · rw [if_neg h1, if_neg h1]
    by_cases h2 : a < 4
    · rw [if_pos h2, if_pos h2]
    · rw [if_neg h2, if_neg h2, if_pos h, if_pos h]
theorem icT_lo (xs : Nat → Int32) {a : Nat} (h : a < 30) (k : Nat) : icT xs a k = icT (fun _ => 0) a k := by
  unfold icT
  by_cases h1 : a < 2
  · rw [if_pos h1, if_pos h1]
  · rw [if_neg h1, if_neg h1]
    by_cases h2 : a = 2
    · rw [if_pos h2, if_pos h2]
    · rw [if_neg h2, if_neg h2]
      by_cases h3 : a = 3
      · rw [if_pos h3, if_pos h3]
      · rw [if_neg h3, if_neg h3, if_pos h, if_pos h]
theorem icT_30 (xs : Nat → Int32) (k : Nat) : icT xs 30 k = xs k := by
  unfold icT
  rw [if_neg (by decide), if_neg (by decide), if_neg (by decide), if_neg (by decide)]
theorem sz1 : (decide ((0 : Int32) ≤ (1 : Int32)) && decide ((1 : Int32) ≤ 100000)) = true := by decide
theorem nz1 : (1 : Int32).toNatClampNeg = 1 := by decide
theorem start_ok (N : Nat) (xs : Nat → Int32) : ∃ h, CL 343 [.ref 30] (hp0 N xs) = RF 343 28 [.ref 30, .ref 31, .ref 241, .ref 253, .ref 254, .int (0 : Int32), .null, .null, .null] [] h ∧ LW N xs 0 0 h := by
  obtain ⟨h0, e0⟩ : ∃ h0, h0 = hp0 N xs := ⟨_, rfl⟩
  have N0 : HN h0 = 31 := by rw [e0]; rfl
  have C0 : HC h0 = 0 ∧ HS h0 = 0 := by rw [e0]; exact ⟨rfl, rfl⟩
  have k31 := new_k h0 8 11 N0
  obtain ⟨h2, c2, S2, n2, q2, w2, m2⟩ := mkR_ok k31 (by rw [HN_hnew, N0])
  have q2' : HC h2 ≤ HC h0 + 1 + 300 := q2
  have w2' : HS h2 ≤ HS h0 + 11 + 4000 := w2
  have k241 := new_k h2 9 22 n2
  obtain ⟨h4, c4, S4, n4, q4, w4, m4⟩ := mdN k241 (by rw [HN_hnew, n2]) (new_i h2 9 22 n2)
  have q4' : HC h4 ≤ HC h2 + 1 + 20 := q4
  have w4' : HS h4 ≤ HS h2 + 22 + 3000 := w4
  obtain ⟨h5, e5⟩ : ∃ h5, h5 = hnew h4 104 1 := ⟨_, rfl⟩
  have n5 : HN h5 = 254 := by rw [e5, HN_hnew, n4]
  obtain ⟨h6, e6⟩ : ∃ h6, h6 = hnew h5 105 1 := ⟨_, rfl⟩
  have n6 : HN h6 = 255 := by rw [e6, HN_hnew, n5]
  have g56 : Sm h5 h6 0 254 := by rw [e6]; exact Sm.new h5 _ _ (by omega)
  have g46 : Sm h4 h6 0 253 := (show Sm h4 h5 0 253 by rw [e5]; exact Sm.new h4 _ _ (by omega)).trans (g56.mono (by omega) (by omega))
  have g26 : Sm h2 h6 0 241 := ((Sm.new h2 9 22 (by omega)).trans m4).trans (g46.mono (by omega) (by omega))
  have g06 : Sm h0 h6 0 31 := ((Sm.new h0 8 11 (by omega)).trans m2).trans (g26.mono (by omega) (by omega))
  have G32 : Sm h2 h6 32 241 := g26.mono (by omega) (by omega)
  obtain ⟨s1, s2, s3, s4, s5, s6, ⟨s7, s8⟩, ⟨s9, s10, s11⟩, s12⟩ := S2
  obtain ⟨t1, t2, t3, t4, t5, t6, t7, t8⟩ := S4
  obtain ⟨l1, l2, l3, l4, l5, l6⟩ := s5.sm G32 (by omega)
  have z : ∀ k, HI h6 241 k = HI h4 241 k := fun k => g46.ii (by omega) (by omega) k
  have kx : ∀ a, a < 31 → h6.2.1 a = kcT N a := fun a ha => (g06 a (by omega) ha).1.trans (by rw [e0]; exact if_pos ha)
  have ix : ∀ a, a < 31 → ∀ k, HI h6 a k = icT xs a k := fun a ha k => (g06.ii (by omega) ha k).trans (by rw [e0]; exact if_pos ha)
  have rx : ∀ a, a < 31 → ∀ k, HR h6 a k = rcT a k := fun a ha k => (g06.hr (by omega) ha k).trans (by rw [e0]; rfl)
  have hH : HF := fun _ => bk0
  refine ⟨h6, ?_, bk0, 0, hH, none, none, none, (fun _ => 0), 0, [], ⟨s1.sm g26, s2.sm G32 (by omega), s3.sm G32 (by omega), s4.sm G32 (by omega), fun a h1 h2 => ⟨(kx a (by omega)).trans (kcT_lo N (by omega)), rx a (by omega)⟩, t1.sm g46, ⟨?_, ?_⟩, ⟨?_, ?_⟩, ?_, ?_⟩, ⟨fun a h1 h2 k => (ix a (by omega) k).trans (icT_lo xs (by omega) k), fun k => (ix 30 (by omega) k).trans (icT_30 xs k)⟩, ⟨s6.sm G32 (by omega) (by omega), ⟨by omega, (G32.ii (by omega) (by omega) 2).trans s8, 0, by omega, (G32.ii (by omega) (by omega) 1).trans s7, fun i hi => absurd hi (Nat.not_lt_zero i)⟩, (g26.ii (by omega) (by omega) 8).trans s9, (g26.ii (by omega) (by omega) 9).trans s10, (g26.ii (by omega) (by omega) 10).trans s11, (g26.ii (by omega) (by omega) 1).trans s12, Nat.zero_le _, fun i hi => absurd hi (Nat.not_lt_zero i)⟩, ⟨t2.cong (fun k hk => g46.ii (by omega) (by omega) k), ⟨by omega, (z 5).trans t4, fun i hi => absurd hi (Nat.not_lt_zero i)⟩, (z 4).trans t3, (z 6).trans t5, (z 7).trans t6, ⟨(z 13).trans t7, Nat.zero_le _, fun i hi => absurd hi (Nat.not_lt_zero i)⟩, ⟨Nat.zero_le _, fun i hi => absurd hi (Nat.not_lt_zero i)⟩, (z 15).trans t8⟩, ⟨0, 240, ⟨l1, l2, l3, l4, by omega, Or.inl rfl, by omega, l5 1, l5 3, Nat.zero_le _, by omega, fun i hi => ⟨0, by omega, l6 i⟩, fun i hi => absurd hi (Nat.not_lt_zero i)⟩, ?_, ?_⟩, ⟨Cns0, Bd0⟩, fun i hi => absurd hi (Nat.not_lt_zero i), (fun s e => nomatch e), (fun k e => nomatch e), (fun k e => nomatch e), Lo.nil⟩
  · rw [← e0, e343]
    try dsimp only
    rw [N0, ck_of k31, c2, bV_ok]
    try dsimp only
    rw [n2, ck_of k241, c4, bV_ok]
    try dsimp only
    rw [sz1, nz1, n4, ← e5, n5, ← e6]
    simp only [cond_true]
  · exact congrArg Prod.fst (kx 30 (by omega))
  · exact congrArg Prod.snd (kx 30 (by omega))
  · exact (g56.hk (by omega) (by omega)).trans (by rw [e5]; exact new_k h4 104 1 n4)
  · exact (g56.hl (by omega) (by omega)).trans (by rw [e5]; exact new_l h4 104 1 n4)
  · rw [e6]
    exact new_k h5 105 1 n5
  · rw [e6]
    exact new_l h5 105 1 n5
  · have a1 : HC h6 = HC h4 + 1 + 1 := by rw [e6, e5]; rfl
    omega
  · have a1 : HS h6 = HS h4 + 1 + 1 := by rw [e6, e5]; rfl
    omega
