/-! THE REFERENCE MADE: all of it -/
def lM1 : List (Nat × Nat × Nat) := [(0, 100, 169), (1, 100, 169), (2, 100, 169), (3, 100, 1352)]
def lM2 : List (Nat × Nat × Nat) := [(8, 100, 30), (9, 100, 30), (10, 100, 30), (11, 100, 30), (12, 100, 60), (14, 100, 160), (21, 100, 120)]
/-- the reference when made -/
def MSt (h : Hp) : Prop := MdS h ∧ RN (HI h 242) bk0 ∧ HI h 241 4 = nI 0 ∧ HI h 241 5 = nI 0 ∧ HI h 241 6 = -1 ∧ HI h 241 7 = -1 ∧ HI h 241 13 = nI 0 ∧ HI h 241 15 = nI 0
theorem mdN {h : Hp} (hk : HK h 241 = 9) (hN : HN h = 242) (hz : ∀ k, HI h 241 k = nI 0) : ∃ g, CL 202 [.ref 241] h = some (.ok .null, g) ∧ MSt g ∧ HN g = 253 ∧ HC g ≤ HC h + 20 ∧ HS g ≤ HS h + 3000 ∧ Sm h g 0 241 := by
  have A : ArS h (gm4 h 241) 241 242 lM1 := arrs_ok 241 lM1 h 242 hN (by decide)
  have N4 : HN (g4m h 241) = 246 := A.1
  have Q : ArS (g4m h 241) (gm11 h 241) 241 246 lM2 := arrs_ok 241 lM2 _ 246 N4 (by decide)
  have m2 : ∀ lo hi, hi ≤ 246 → (241 < lo ∨ hi ≤ 241) → Sm (gm4 h 241) (gm11 h 241) lo hi := fun lo hi h1 h2 => (Sm.sI _ _ _ _ h2).trans ((Sm.sI _ _ _ _ h2).trans (Q.m h1 h2))
  have c : HC (gm11 h 241) = HC (gm4 h 241) + 7 := Q.2.1
  have c1 : HC (gm4 h 241) = HC h + 4 := A.2.1
  have s : HS (gm11 h 241) = HS (gm4 h 241) + 460 := Q.2.2.1
  have s1 : HS (gm4 h 241) = HS h + 1859 := A.2.2.1
  have p : (gm11 h 241).2.1 241 = h.2.1 241 := Q.2.2.2.1.trans A.2.2.2.1
  have kk : HK (gm11 h 241) 241 = 9 := (congrArg Prod.fst p).trans hk
  have r0 : HR (gm11 h 241) 241 0 = 242 := (Q.o (j := 0) rfl).trans (A.rf rfl (i := 0) rfl)
  have w0 := m2 242 246 (by decide) (by decide)
  have a0 := A.k (i := 0) rfl
  have a1 := A.k (i := 1) rfl
  have a2 := A.k (i := 2) rfl
  have a3 := A.k (i := 3) rfl
  have k0 : HK (gm11 h 241) 242 = 100 := (w0.hk (by decide) (by decide)).trans a0.1
  have l0 : HL (gm11 h 241) 242 = 169 := (w0.hl (by decide) (by decide)).trans a0.2
  have i4 : ∀ x, x ≠ 6 → x ≠ 7 → HI (gm11 h 241) 241 x = nI 0 := fun x q6 q7 => (Q.2.2.2.2.1 x).trans ((if_neg (by omega)).trans ((if_neg (by omega)).trans ((A.2.2.2.2.1 x).trans (hz x))))
  have i6 : HI (gm11 h 241) 241 6 = -1 := by
    rw [Q.2.2.2.2.1 6]
    unfold g4m
    rw [HI_sIf, u2_no (by decide), HI_sIf]
    exact u2_at _ _ _ _
  have i7 : HI (gm11 h 241) 241 7 = -1 := by
    rw [Q.2.2.2.2.1 7]
    unfold g4m
    rw [HI_sIf]
    exact u2_at _ _ _ _
  obtain ⟨G, eG⟩ : ∃ G, G = wI (gm11 h 241) (u2 (u2 (u2 (HI (gm11 h 241)) 242 10 (nI 5)) 242 11 (nI 5)) 242 12 (nI 5)) := ⟨_, rfl⟩
  have mG : ∀ lo hi, (242 < lo ∨ hi ≤ 242) → Sm (gm11 h 241) G lo hi := fun lo hi q => by
    rw [eG]
    exact Sm.wI _ (fun a k x y => (if_neg (by omega)).trans ((if_neg (by omega)).trans (if_neg (by omega))))
  have g4 := mG 241 242 (by decide)
  have sG : ∀ a, HK G a = HK (gm11 h 241) a ∧ HL G a = HL (gm11 h 241) a ∧ ∀ k, HR G a k = HR (gm11 h 241) a k := fun a => by
    rw [eG]
    exact ⟨rfl, rfl, fun _ => rfl⟩
  have gk : ∀ {a x}, HK (gm11 h 241) a = x → HK G a = x := fun {a x} e => (sG a).1.trans e
  have gl' : ∀ {a x}, HL (gm11 h 241) a = x → HL G a = x := fun {a x} e => (sG a).2.1.trans e
  have gr : ∀ {k x}, HR (gm11 h 241) 241 k = x → HR G 241 k = x := fun {k x} e => ((sG 241).2.2 k).trans e
  have b0 := Q.k (i := 0) rfl
  have b1 := Q.k (i := 1) rfl
  have b2 := Q.k (i := 2) rfl
  have b3 := Q.k (i := 3) rfl
  have b4 := Q.k (i := 4) rfl
  have b5 := Q.k (i := 5) rfl
  have b6 := Q.k (i := 6) rfl
  refine ⟨G, ?_, ⟨⟨gk kk, ⟨gr r0, gr ((Q.o (j := 1) rfl).trans (A.rf rfl (i := 1) rfl)), gr ((Q.o (j := 2) rfl).trans (A.rf rfl (i := 2) rfl)), gr ((Q.o (j := 3) rfl).trans (A.rf rfl (i := 3) rfl)), gr (Q.rf rfl (i := 0) rfl), gr (Q.rf rfl (i := 1) rfl), gr (Q.rf rfl (i := 2) rfl), gr (Q.rf rfl (i := 3) rfl), gr (Q.rf rfl (i := 4) rfl), gr (Q.rf rfl (i := 5) rfl), gr (Q.rf rfl (i := 6) rfl)⟩, ⟨gk k0, gl' l0⟩, ⟨gk ((w0.hk (by decide) (by decide)).trans a1.1), gl' ((w0.hl (by decide) (by decide)).trans a1.2)⟩, ⟨gk ((w0.hk (by decide) (by decide)).trans a2.1), gl' ((w0.hl (by decide) (by decide)).trans a2.2)⟩, ⟨gk ((w0.hk (by decide) (by decide)).trans a3.1), gl' ((w0.hl (by decide) (by decide)).trans a3.2)⟩, ⟨gk b0.1, gl' b0.2⟩, ⟨gk b1.1, gl' b1.2⟩, ⟨gk b2.1, gl' b2.2⟩, ⟨gk b3.1, gl' b3.2⟩, ⟨gk b4.1, gl' b4.2⟩, ⟨gk b5.1, gl' b5.2⟩, gk b6.1, gl' b6.2⟩, ?_, ?_, ?_, ?_, ?_, ?_, ?_⟩, ?_, ?_, ?_, ?_⟩
  · rw [mkM_ok hk hN, lz0, mkM_loop (ck_of kk) r0 k0 l0, ← eG]
  · refine RN0 (fun k hk hn => ?_) (fun s hs => ?_)
    · rw [eG]
      refine (if_neg (by omega)).trans ((if_neg (by omega)).trans ((if_neg (by omega)).trans ?_))
      exact (w0.ii (by decide) (by decide) k).trans (A.z (i := 0) rfl k)
    · rw [eG]
      show u2 (u2 (u2 (HI (gm11 h 241)) 242 10 (nI 5)) 242 11 (nI 5)) 242 12 (nI 5) 242 (10 + s) = nI 5
      unfold u2
      repeat' split
      all_goals first | rfl | omega
  · exact (g4.ii (by decide) (by decide) 4).trans (i4 4 (by decide) (by decide))
  · exact (g4.ii (by decide) (by decide) 5).trans (i4 5 (by decide) (by decide))
  · exact (g4.ii (by decide) (by decide) 6).trans i6
  · exact (g4.ii (by decide) (by decide) 7).trans i7
  · exact (g4.ii (by decide) (by decide) 13).trans (i4 13 (by decide) (by decide))
  · exact (g4.ii (by decide) (by decide) 15).trans (i4 15 (by decide) (by decide))
  · rw [eG]
    exact Q.1
  · rw [eG]
    show HC (gm11 h 241) ≤ _
    omega
  · rw [eG]
    show HS (gm11 h 241) ≤ _
    omega
  · exact (A.m (by decide) (by decide)).trans ((m2 0 241 (by decide) (by decide)).trans (mG 0 241 (by decide)))
