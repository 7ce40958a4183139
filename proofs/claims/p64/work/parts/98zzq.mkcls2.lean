/-! THE CLASS MADE: all of it -/
section SM3
variable {h h' : Hp} {lo hi : Nat}
theorem PgS.sm (S : PgS h) (G : Sm h h' 32 hi) (h2 : 227 ≤ hi) : PgS h' := by
  obtain ⟨a, ⟨b1, b2, b3, b4, b5⟩, ⟨c1, c2⟩, ⟨d1, d2⟩, ⟨e1, e2⟩, ⟨f1, f2⟩, g1, g2⟩ := S
  exact ⟨(G.hk (by omega) (by omega)).trans a, ⟨(G.hr (by omega) (by omega) _).trans b1, (G.hr (by omega) (by omega) _).trans b2, (G.hr (by omega) (by omega) _).trans b3, (G.hr (by omega) (by omega) _).trans b4, (G.hr (by omega) (by omega) _).trans b5⟩, ⟨(G.hk (by omega) (by omega)).trans c1, (G.hl (by omega) (by omega)).trans c2⟩, ⟨(G.hk (by omega) (by omega)).trans d1, (G.hl (by omega) (by omega)).trans d2⟩, ⟨(G.hk (by omega) (by omega)).trans e1, (G.hl (by omega) (by omega)).trans e2⟩, ⟨(G.hk (by omega) (by omega)).trans f1, (G.hl (by omega) (by omega)).trans f2⟩, (G.hk (by omega) (by omega)).trans g1, (G.hl (by omega) (by omega)).trans g2⟩
theorem MgS.sm (S : MgS h) (G : Sm h h' 32 hi) (h2 : 235 ≤ hi) : MgS h' := by
  obtain ⟨a, ⟨b1, b2, b3, b4, b5, b6, b7⟩, e⟩ := S
  exact ⟨(G.hk (by omega) (by omega)).trans a, ⟨(G.hr (by omega) (by omega) _).trans b1, (G.hr (by omega) (by omega) _).trans b2, (G.hr (by omega) (by omega) _).trans b3, (G.hr (by omega) (by omega) _).trans b4, (G.hr (by omega) (by omega) _).trans b5, (G.hr (by omega) (by omega) _).trans b6, (G.hr (by omega) (by omega) _).trans b7⟩, fun i hi => ⟨(G.hk (by omega) (by omega)).trans (e i hi).1, (G.hl (by omega) (by omega)).trans (e i hi).2⟩⟩
theorem GrS.sm (S : GrS h) (G : Sm h h' 32 hi) (h2 : 239 ≤ hi) : GrS h' := by
  obtain ⟨a, ⟨b1, b2, b3⟩, e⟩ := S
  exact ⟨(G.hk (by omega) (by omega)).trans a, ⟨(G.hr (by omega) (by omega) _).trans b1, (G.hr (by omega) (by omega) _).trans b2, (G.hr (by omega) (by omega) _).trans b3⟩, fun i hi => ⟨(G.hk (by omega) (by omega)).trans (e i hi).1, (G.hl (by omega) (by omega)).trans (e i hi).2⟩⟩
theorem Ln0.sm (S : Ln0 h) (G : Sm h h' 32 hi) (h2 : 241 ≤ hi) : Ln0 h' := by
  obtain ⟨a, b, c, d, e, f⟩ := S
  exact ⟨(G.hk (by omega) (by omega)).trans a, (G.hr (by omega) (by omega) _).trans b, (G.hk (by omega) (by omega)).trans c, (G.hl (by omega) (by omega)).trans d, fun k => (G.ii (by omega) (by omega) k).trans (e k), fun k => (G.ii (by omega) (by omega) k).trans (f k)⟩
end SM3
/-- the class when made -/
def CSt (h : Hp) : Prop := RrS h ∧ MgS h ∧ GrS h ∧ PgS h ∧ Ln0 h ∧ RK (HI h) 32 bk0 ∧ (HI h 83 1 = nI 0 ∧ HI h 83 2 = nI 0) ∧ (HI h 31 8 = nI 0 ∧ HI h 31 9 = -1 ∧ HI h 31 10 = -1) ∧ HI h 221 1 = nI 0
theorem mkR_ok {h : Hp} (hk : HK h 31 = 8) (hN : HN h = 32) : ∃ h', CL 9 [.ref 31] h = some (.ok .null, h') ∧ CSt h' ∧ HN h' = 241 ∧ HC h' ≤ HC h + 300 ∧ HS h' ≤ HS h + 4000 ∧ Sm h h' 0 31 := by
  obtain ⟨g0, c0, S0, R0, n0, q0, w0, m0⟩ := bkN hN
  obtain ⟨h1, e1⟩ : ∃ h1, h1 = sR g0 31 0 32 := ⟨_, rfl⟩
  have O0 : Ob h g0 h1 32 0 := ⟨e1, m0, by decide⟩
  have N1 : HN h1 = 49 := O0.n.1.trans n0
  have K1 := O0.k hk
  obtain ⟨g1, c1, S1, R1, n1, q1, w1, m1⟩ := bkN N1
  obtain ⟨h2, e2⟩ : ∃ h2, h2 = sR g1 31 1 49 := ⟨_, rfl⟩
  have O1 : Ob h1 g1 h2 49 1 := ⟨e2, m1, by decide⟩
  have N2 : HN h2 = 66 := O1.n.1.trans n1
  have K2 := O1.k K1
  obtain ⟨g2, c2, S2, R2, n2, q2, w2, m2⟩ := bkN N2
  obtain ⟨h3, e3'⟩ : ∃ h3, h3 = sR g2 31 2 66 := ⟨_, rfl⟩
  have O2 : Ob h2 g2 h3 66 2 := ⟨e3', m2, by decide⟩
  have N3 : HN h3 = 83 := O2.n.1.trans n2
  have K3 := O2.k K2
  have k83 := new_k h3 4 3 N3
  obtain ⟨g3, c3, n3, q3, w3, I3, I3r, I3z, ⟨I3k, I3l⟩, I3h, mm3⟩ := mkH_ok k83 (by rw [HN_hnew, N3])
  obtain ⟨h4, e4'⟩ : ∃ h4, h4 = sR g3 31 3 83 := ⟨_, rfl⟩
  have O3 : Ob h3 g3 h4 83 3 := ⟨e4', (Sm.new h3 4 3 (by omega)).trans mm3, by decide⟩
  have N4 : HN h4 = 221 := O3.n.1.trans n3
  have K4 := O3.k K3
  have k221 := new_k h4 7 8 N4
  obtain ⟨g4, c4, S4, n4, q4, w4, mm4, z4⟩ := pgN k221 (by rw [HN_hnew, N4])
  obtain ⟨h5, e5'⟩ : ∃ h5, h5 = sR g4 31 4 221 := ⟨_, rfl⟩
  have O4 : Ob h4 g4 h5 221 4 := ⟨e5', (Sm.new h4 7 8 (by omega)).trans mm4, by decide⟩
  have N5 : HN h5 = 227 := O4.n.1.trans n4
  have K5 := O4.k K4
  have k227 := new_k h5 6 9 N5
  obtain ⟨g5, c5, S5, n5, q5, w5, mm5⟩ := mgN k227 (by rw [HN_hnew, N5])
  obtain ⟨h6, e6'⟩ : ∃ h6, h6 = sR g5 31 5 227 := ⟨_, rfl⟩
  have O5 : Ob h5 g5 h6 227 5 := ⟨e6', (Sm.new h5 6 9 (by omega)).trans mm5, by decide⟩
  have N6 : HN h6 = 235 := O5.n.1.trans n5
  have K6 := O5.k K5
  have k235 := new_k h6 3 4 N6
  obtain ⟨g6, c6, S6, n6, q6, w6, mm6⟩ := grN k235 (by rw [HN_hnew, N6])
  obtain ⟨h7, e7'⟩ : ∃ h7, h7 = sR g6 31 6 235 := ⟨_, rfl⟩
  have O6 : Ob h6 g6 h7 235 6 := ⟨e7', (Sm.new h6 3 4 (by omega)).trans mm6, by decide⟩
  have N7 : HN h7 = 239 := O6.n.1.trans n6
  have K7 := O6.k K6
  have k239 := new_k h7 10 4 N7
  obtain ⟨g7, c7, S7, n7, q7, w7, mm7⟩ := lnN k239 (by rw [HN_hnew, N7]) (new_i h7 10 4 N7)
  obtain ⟨h8, e8'⟩ : ∃ h8, h8 = sR g7 31 7 239 := ⟨_, rfl⟩
  have O7 : Ob h7 g7 h8 239 7 := ⟨e8', (Sm.new h7 10 4 (by omega)).trans mm7, by decide⟩
  have K8 := O7.k K7
  obtain ⟨F, eF⟩ : ∃ F, F = sI (sI (sI h8 31 8 (nI 0)) 31 9 (-1 : Int32)) 31 10 (-1 : Int32) := ⟨_, rfl⟩
  have KF : HK F 31 = 8 := by rw [eF]; exact K8
  have RF' : ∀ i, HR F 31 i = HR h8 31 i := fun i => by rw [eF]; rfl
  have tF : ∀ lo hi, (31 < lo ∨ hi ≤ 31) → Sm h8 F lo hi := fun lo hi q => by
    rw [eF]
    exact (Sm.sI _ _ _ _ q).trans ((Sm.sI _ _ _ _ q).trans (Sm.sI _ _ _ _ q))
  have t7 : Sm h8 F 32 241 := tF 32 241 (by decide)
  have t6 : Sm h7 F 32 239 := O7.m.trans (t7.mono (by decide) (by decide))
  have t5 : Sm h6 F 32 235 := O6.m.trans (t6.mono (by decide) (by decide))
  have t4 : Sm h5 F 32 227 := O5.m.trans (t5.mono (by decide) (by decide))
  have t3 : Sm h4 F 32 221 := O4.m.trans (t4.mono (by decide) (by decide))
  have t2 : Sm h3 F 32 83 := O3.m.trans (t3.mono (by decide) (by decide))
  have t1 : Sm h2 F 32 66 := O2.m.trans (t2.mono (by decide) (by decide))
  have t0 : Sm h1 F 32 49 := O1.m.trans (t1.mono (by decide) (by decide))
  have u0 := (O0.gg 49).trans t0
  have u1 := (O1.gg 66).trans t1
  have u2' := (O2.gg 83).trans t2
  have u3 := (O3.gg 221).trans t3
  have u4 := (O4.gg 227).trans t4
  have u5 := (O5.gg 235).trans t5
  have u6 := (O6.gg 239).trans t6
  have u7 := (O7.gg 241).trans t7
  have x0 := O0.n
  have x1 := O1.n
  have x2 := O2.n
  have x3 := O3.n
  have x4 := O4.n
  have x5 := O5.n
  have x6 := O6.n
  have x7 := O7.n
  have y3 : HC g3 = HC h3 + 1 + 1 + 136 ∧ HS g3 = HS h3 + 3 + 8 + 2208 := ⟨q3, w3⟩
  have y4 : HC g4 = HC h4 + 1 + 5 ∧ HS g4 = HS h4 + 8 + 300 := ⟨q4, w4⟩
  have y5 : HC g5 = HC h5 + 1 + 7 ∧ HS g5 = HS h5 + 9 + 210 := ⟨q5, w5⟩
  have y6 : HC g6 = HC h6 + 1 + 3 ∧ HS g6 = HS h6 + 4 + 90 := ⟨q6, w6⟩
  have y7 : HC g7 = HC h7 + 1 + 1 ∧ HS g7 = HS h7 + 4 + 16 := ⟨q7, w7⟩
  have zF : HN F = HN h8 ∧ HC F = HC h8 ∧ HS F = HS h8 := by rw [eF]; exact ⟨rfl, rfl, rfl⟩
  refine ⟨F, ?_, ⟨⟨KF, ?_, ?_, ?_, ?_, ?_, ?_, ?_, ?_, S0.sm u0 (by decide) (by decide), S1.sm u1 (by decide) (by decide), S2.sm u2' (by decide) (by decide), ⟨?_, ?_⟩, ⟨?_, ?_⟩, fun i hi => ?_⟩, S5.sm u5 (by decide), S6.sm u6 (by decide), S4.sm u4 (by decide), S7.sm u7 (by decide), R0.sm u0 (by decide) (by decide), ⟨?_, ?_⟩, ⟨?_, ?_, ?_⟩, ?_⟩, ?_, ?_, ?_, ?_⟩
  · rw [e9, ini_ok hk (by decide)]
    try dsimp only
    rw [hN, ck_of (new_k h 2 5 hN), c0, bV_ok]
    try dsimp only
    rw [ck_of ((m0.hk (by decide) (by decide)).trans hk), ← e1, N1, ck_of (new_k h1 2 5 N1), c1, bV_ok]
    try dsimp only
    rw [ck_of ((m1.hk (by decide) (by decide)).trans K1), ← e2, N2, ck_of (new_k h2 2 5 N2), c2, bV_ok]
    try dsimp only
    rw [ck_of ((m2.hk (by decide) (by decide)).trans K2), ← e3', N3, ck_of k83, c3, bV_ok]
    try dsimp only
    rw [ck_of ((O3.2.1.hk (by decide) (by decide)).trans K3), ← e4', N4, ck_of k221, c4, bV_ok]
    try dsimp only
    rw [ck_of ((O4.2.1.hk (by decide) (by decide)).trans K4), ← e5', N5, ck_of k227, c5, bV_ok]
    try dsimp only
    rw [ck_of ((O5.2.1.hk (by decide) (by decide)).trans K5), ← e6', N6, ck_of k235, c6, bV_ok]
    try dsimp only
    rw [ck_of ((O6.2.1.hk (by decide) (by decide)).trans K6), ← e7', N7, ck_of k239, c7, bV_ok]
    try dsimp only
    rw [ck_of ((O7.2.1.hk (by decide) (by decide)).trans K7), ← e8']
    simp only [ckK_sI, ck_of K8, cond_true, lz0, fit1_0]
    rw [eF]
  · exact (RF' 0).trans (O7.o (O6.o (O5.o (O4.o (O3.o (O2.o (O1.o O0.r (by decide)) (by decide)) (by decide)) (by decide)) (by decide)) (by decide)) (by decide))
  · exact (RF' 1).trans (O7.o (O6.o (O5.o (O4.o (O3.o (O2.o O1.r (by decide)) (by decide)) (by decide)) (by decide)) (by decide)) (by decide))
  · exact (RF' 2).trans (O7.o (O6.o (O5.o (O4.o (O3.o O2.r (by decide)) (by decide)) (by decide)) (by decide)) (by decide))
  · exact (RF' 3).trans (O7.o (O6.o (O5.o (O4.o O3.r (by decide)) (by decide)) (by decide)) (by decide))
  · exact (RF' 4).trans (O7.o (O6.o (O5.o O4.r (by decide)) (by decide)) (by decide))
  · exact (RF' 5).trans (O7.o (O6.o O5.r (by decide)) (by decide))
  · exact (RF' 6).trans (O7.o O6.r (by decide))
  · exact (RF' 7).trans O7.r
  · exact (u3.hk (by decide) (by decide)).trans I3
  · exact (u3.hr (by decide) (by decide) 0).trans I3r
  · rw [(u3.hk (a := 84) (by decide) (by decide)).trans I3k]
    rfl
  · exact (u3.hl (by decide) (by decide)).trans I3l
  · exact ⟨(u3.hr (by decide) (by decide) i).trans (I3h i hi).1, (I3h i hi).2.sm u3 (by omega) (by omega)⟩
  · exact (u3.ii (by decide) (by decide) 1).trans I3z.1
  · exact (u3.ii (by decide) (by decide) 2).trans I3z.2
  · rw [eF, HI_sIf, u2_no (by decide), HI_sIf, u2_no (by decide), HI_sIf]
    exact u2_at _ _ _ _
  · rw [eF, HI_sIf, u2_no (by decide), HI_sIf]
    exact u2_at _ _ _ _
  · rw [eF, HI_sIf]
    exact u2_at _ _ _ _
  · exact (u4.ii (by decide) (by decide) 1).trans z4
  · omega
  · omega
  · omega
  · exact O0.z.trans (O1.z.trans (O2.z.trans (O3.z.trans (O4.z.trans (O5.z.trans (O6.z.trans (O7.z.trans (tF 0 31 (by decide)))))))))

