/-! THE LAW: its start, its rounds -/
theorem kcT_lo (L : Nat) {a : Nat} (h : a < 30) : kcT L a = kcT 0 a := by
  unfold kcT
  by_cases h1 : a < 2
  · rw [if_pos h1, if_pos h1]
  · rw [if_neg h1, if_neg h1]
    by_cases h2 : a < 4
    · rw [if_pos h2, if_pos h2]
    · rw [if_neg h2, if_neg h2, if_pos h, if_pos h]
theorem icT_lo (xs : Nat → Int32) {a : Nat} (h : a < 30) (k : Nat) : icT xs a k = icT (fun _ => 0) a k := by
  unfold icT
  by_cases h1 : a < 2
  · rw [if_pos h1, if_pos h1]
  · rw [if_neg h1, if_neg h1]
    by_cases h2 : a = 2
    · rw [if_pos h2, if_pos h2]
    · rw [if_neg h2, if_neg h2]
      by_cases h3 : a = 3
      · rw [if_pos h3, if_pos h3]
      · rw [if_neg h3, if_neg h3, if_pos h, if_pos h]
theorem icT_30 (xs : Nat → Int32) (k : Nat) : icT xs 30 k = xs k := by
  unfold icT
  rw [if_neg (by decide), if_neg (by decide), if_neg (by decide), if_neg (by decide)]
theorem rcT_lt (a k : Nat) : rcT a k < 31 := by
  unfold rcT
  repeat' split
  all_goals omega
theorem Kb0 : Kb bk0 := ⟨fun _ _ _ => rfl, fun i hi => absurd hi (Nat.not_lt_zero i)⟩
theorem Qv0 : Qv bk0 := ⟨Nat.zero_le 12, fun i hi => absurd hi (Nat.not_lt_zero i)⟩
theorem Cns_0 : Cns bk0 := by
  have et : tot (kA bk0) = 0 := tot0
  have e3 : kU bk0 3 = 0 := rfl
  have e2 : kU bk0 2 = 0 := rfl
  unfold Cns
  rw [et, e3, e2]
theorem Bd_0 : Bd bk0 0 := ⟨fun _ _ => Nat.le_refl 0, Nat.le_refl 0⟩
section LAW24
variable {N : Nat} {xs : Nat → Int32}
theorem law_start (N : Nat) (xs : Nat → Int32) : ∃ h, CL 343 [.ref 30] (hp0 N xs) = bV (CL 243 [.ref 31, .ref 30] h) (fun h3 => RF 343 15 [.ref 30, .ref 31, .int (0 : Int32), .null, .null, .null] [] h3) thr ∧ LK N xs h bk0 0 ∧ HC h ≤ 301 ∧ HS h ≤ 4011 := by
  obtain ⟨h0, e0⟩ : ∃ h0, h0 = hp0 N xs := ⟨_, rfl⟩
  have N0 : HN h0 = 31 := by rw [e0]; rfl
  have C0 : HC h0 = 0 ∧ HS h0 = 0 := by rw [e0]; exact ⟨rfl, rfl⟩
  have W0 : WF h0 := by
    refine ⟨by omega, fun _ z => z.elim, fun a k => ?_, fun _ _ _ z => z⟩
    rw [N0, e0]
    exact rcT_lt a k
  have k31 := new_k h0 8 11 N0
  obtain ⟨h2, c2, S2, n2, q2, w2, m2⟩ := mkR_ok k31 (by rw [HN_hnew, N0])
  have q2' : HC h2 ≤ HC h0 + 1 + 300 := q2
  have w2' : HS h2 ≤ HS h0 + 11 + 4000 := w2
  have W2 : WF h2 := wf_CL (by decide) c2 (ZR_new W0).1 ⟨⟨by rw [HN_hnew, N0]; decide, fun z => z⟩, trivial⟩
  have g02 : Sm h0 h2 0 31 := (Sm.new h0 8 11 (by omega)).trans m2
  obtain ⟨s1, s2, s3, s4, s5, s6, ⟨s7, s8⟩, ⟨s9, s10, s11⟩, s12⟩ := S2
  obtain ⟨l1, l2, l3, l4, l5, l6⟩ := s5
  have kx : ∀ a, a < 31 → h2.2.1 a = kcT N a := fun a ha => (g02 a (by omega) ha).1.trans (by rw [e0]; exact if_pos ha)
  have ix : ∀ a, a < 31 → ∀ k, HI h2 a k = icT xs a k := fun a ha k => (g02.ii (by omega) ha k).trans (by rw [e0]; exact if_pos ha)
  have rx : ∀ a, a < 31 → ∀ k, HR h2 a k = rcT a k := fun a ha k => (g02.hr (by omega) ha k).trans (by rw [e0]; rfl)
  refine ⟨h2, ?_, ⟨W2, by omega, ⟨s1, s2, s3⟩, ⟨fun a h1 h2 => ⟨(kx a (by omega)).trans (kcT_lo N (by omega)), rx a (by omega)⟩, fun a h1 h2 k => (ix a (by omega) k).trans (icT_lo xs (by omega) k)⟩, ⟨⟨congrArg Prod.fst (kx 30 (by omega)), congrArg Prod.snd (kx 30 (by omega))⟩, fun k => (ix 30 (by omega) k).trans (icT_30 xs k)⟩, s6, ⟨0, fun _ => bk0, by omega, s8, 0, by omega, s7, fun i hi => absurd hi (Nat.not_lt_zero i)⟩, ⟨[], 0, 240, ⟨l1, l2, l3, l4, by omega, Or.inl rfl, by omega, l5 1, l5 3, Nat.zero_le _, by omega, fun i hi => ⟨0, by omega, l6 i⟩, fun i hi => absurd hi (Nat.not_lt_zero i)⟩, Lo.nil⟩, Cns_0, Bd_0, Qv0, Kb0⟩, by omega, by omega⟩
  rw [← e0, e343]
  dsimp only
  rw [N0, ck_of k31, c2]
  simp only [cond_true, bV_ok]
theorem law_loop (hN : N ≤ 260) : ∀ (d i : Nat) (h : Hp) (b : Bk) (y : Nat) (v3 v4 v5 : Value), i + d = 5 → LK N xs h b y → y + 1000 * d < 1000000 → ∃ h', RF 343 15 [.ref 30, .ref 31, .int (nI i), v3, v4, v5] [] h = some (.ok (.int (1 : Int32)), h') ∧ Rm h h' (13000 * d) (1300000 * d) := by
  intro d
  induction d with
  | zero =>
    intro i h b y v3 v4 v5 hi K hy
    have e : i = 5 := by omega
    subst e
    refine ⟨h, ?_, Rm.rf h⟩
    rw [e343_15, if_neg (show ¬(nI 5 < (5 : Int32)) by decide)]
    rfl
  | succ d ih =>
    intro i h b y v3 v4 v5 hi K hy
    obtain ⟨v, g1, b1, c1, K1, R1⟩ := any_ok K hN (by omega) (i := 200 + 6 * i) (by omega)
    obtain ⟨s, hs, c2⟩ := source_ok K1.sc hN (i := 300 + i) (by omega)
    obtain ⟨r, hr, c3⟩ := pick_ok K1.sc hN (i := 320 + i) (m := 2) (by omega) (by decide) (by decide)
    obtain ⟨g2, c4, K2, R2⟩ := recs_ok K1
    obtain ⟨g3, c5, K3, R3⟩ := matchings_ok K2 hs (o := (s + 1 + r) % 3) (by omega) (by omega)
    obtain ⟨g4, c6, K4, R4⟩ := groups_ok K3 (by omega)
    obtain ⟨g5', c7, K5, R5⟩ := reports_ok K4 (by omega)
    obtain ⟨h', i1, i2⟩ := ih (i + 1) g5' b1 (y + 99) (.int v) (.int (nI (97 + s))) (.int (nI (97 + (s + 1 + r) % 3))) (by omega) K5 (by omega)
    refine ⟨h', ?_, ((((((R1.tr R2).tr R3).tr R4).tr R5).tr i2).up (by omega) (by omega))⟩
    have e1 : ((200 : Int32) + ((6 : Int32) * nI i)) = nI (200 + 6 * i) := by
      rw [show ((6 : Int32) * nI i) = nI (6 * i) from mul_nI 6 i, show ((200 : Int32) + nI (6 * i)) = nI (200 + 6 * i) from add_nI 200 _]
    have e2 : ((300 : Int32) + nI i) = nI (300 + i) := add_nI 300 i
    have e3 : ((320 : Int32) + nI i) = nI (320 + i) := add_nI 320 i
    have e4 : (((nI (97 + s) - (97 : Int32)) + (1 : Int32)) + nI r) = nI (s + 1 + r) := by
      rw [show (nI (97 + s) - (97 : Int32)) = nI (97 + s - 97) from sub_nI (b := 97) (by omega), show (nI (97 + s - 97) + (1 : Int32)) = nI (97 + s - 97 + 1) from add_nI _ 1, add_nI, Nat.add_sub_cancel_left]
    have e5 : ((((97 : Int32) + (nI (s + 1 + r) - nI (s + 1 + r) / (3 : Int32) * (3 : Int32))).toUInt32 % 65536).toInt32) = nI (97 + (s + 1 + r) % 3) := by
      rw [show (nI (s + 1 + r) - nI (s + 1 + r) / (3 : Int32) * (3 : Int32)) = nI ((s + 1 + r) % 3) from mod_nI (b := 3) (by omega) (by decide), show ((97 : Int32) + nI ((s + 1 + r) % 3)) = nI (97 + (s + 1 + r) % 3) from add_nI 97 _, i2c_nI (by omega)]
    have n1 : ¬((1 : Int32) = 0) := by decide
    rw [e343_15, if_pos (show nI i < (5 : Int32) by rw [show (nI i < (5 : Int32)) = (i < 5) from lt_nI (by omega) (by decide)]; omega), e1, c1]
    simp only [bI_ok]
    rw [e2, c2]
    simp only [bI_ok]
    rw [e3, show CL 186 [.ref 30, .int (nI (320 + i)), .int (2 : Int32)] g1 = _ from c3]
    simp only [bI_ok]
    rw [if_neg (show ¬((3 : Int32) = 0) by decide), c4]
    simp only [bI_ok]
    rw [if_neg n1, e4, e5, c5]
    simp only [bI_ok]
    rw [if_neg n1, c6]
    simp only [bI_ok]
    rw [if_neg n1, c7]
    simp only [bI_ok]
    rw [if_neg n1, show (nI i + (1 : Int32)) = nI (i + 1) from add_nI i 1]
    exact i1
end LAW24
