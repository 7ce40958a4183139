/-! THE CLASS MADE -/
section MC
variable {h : Hp}
def lX : List (Nat × Nat × Nat) := [(0, 100, 30), (1, 100, 30), (2, 100, 30), (3, 100, 30), (4, 100, 30), (5, 100, 30), (6, 100, 30)]
theorem mgN (hk : HK h 227 = 6) (hN : HN h = 228) : ∃ g, CL 5 [.ref 227] h = some (.ok .null, g) ∧ MgS g ∧ HN g = 235 ∧ HC g = HC h + 7 ∧ HS g = HS h + 210 ∧ Sm h g 0 227 := by
  have A : ArS h (gx7 h 227) 227 228 lX := arrs_ok 227 lX h 228 hN (by decide)
  refine ⟨mkX h 227, mkX_ok hk hN, ⟨?_, ⟨A.rf rfl (i := 0) rfl, A.rf rfl (i := 1) rfl, A.rf rfl (i := 2) rfl, A.rf rfl (i := 3) rfl, A.rf rfl (i := 4) rfl, A.rf rfl (i := 5) rfl, A.rf rfl (i := 6) rfl⟩, fun i hi => ?_⟩, A.1, A.2.1, A.2.2.1, ?_⟩
  · exact (congrArg Prod.fst A.2.2.2.1).trans hk
  · have : i = 0 ∨ i = 1 ∨ i = 2 ∨ i = 3 ∨ i = 4 ∨ i = 5 ∨ i = 6 := by omega
    rcases this with rfl | rfl | rfl | rfl | rfl | rfl | rfl
    · exact A.k (i := 0) rfl
    · exact A.k (i := 1) rfl
    · exact A.k (i := 2) rfl
    · exact A.k (i := 3) rfl
    · exact A.k (i := 4) rfl
    · exact A.k (i := 5) rfl
    · exact A.k (i := 6) rfl
  · exact (A.m (by decide) (by decide)).trans ((Sm.sI _ _ _ _ (by decide)).trans (Sm.sI _ _ _ _ (by decide)))
def lP1 : List (Nat × Nat × Nat) := [(0, 101, 60)]
def lP2 : List (Nat × Nat × Nat) := [(2, 100, 60), (3, 101, 60), (4, 100, 60), (5, 100, 60)]
theorem pgN (hk : HK h 221 = 7) (hN : HN h = 222) : ∃ g, CL 4 [.ref 221] h = some (.ok .null, g) ∧ PgS g ∧ HN g = 227 ∧ HC g = HC h + 5 ∧ HS g = HS h + 300 ∧ Sm h g 0 221 ∧ HI g 221 1 = nI 0 := by
  have A : ArS h (gp1 h 221) 221 222 lP1 := arrs_ok 221 lP1 h 222 hN (by decide)
  have N2 : HN (gp2 h 221) = 223 := A.1
  have Q : ArS (gp2 h 221) (gp6 h 221) 221 223 lP2 := arrs_ok 221 lP2 _ 223 N2 (by decide)
  have m2 : ∀ lo hi, hi ≤ 223 → (221 < lo ∨ hi ≤ 221) → Sm (gp1 h 221) (mkP h 221) lo hi := fun lo hi h1 h2 => (Sm.sI _ _ _ _ h2).trans ((Q.m h1 h2).trans ((Sm.sI _ _ _ _ h2).trans (Sm.sI _ _ _ _ h2)))
  have mF : ∀ lo hi, (221 < lo ∨ hi ≤ 221) → Sm (gp6 h 221) (mkP h 221) lo hi := fun lo hi h2 => (Sm.sI _ _ _ _ h2).trans (Sm.sI _ _ _ _ h2)
  have c : HC (gp6 h 221) = HC (gp2 h 221) + 4 := Q.2.1
  have c1 : HC (gp2 h 221) = HC h + 1 := A.2.1
  have s : HS (gp6 h 221) = HS (gp2 h 221) + 240 := Q.2.2.1
  have s1 : HS (gp2 h 221) = HS h + 60 := A.2.2.1
  refine ⟨mkP h 221, mkP_ok hk hN, ⟨?_, ⟨?_, Q.rf rfl (i := 0) rfl, Q.rf rfl (i := 1) rfl, Q.rf rfl (i := 2) rfl, Q.rf rfl (i := 3) rfl⟩, ⟨?_, ?_⟩, Q.k (i := 0) rfl, Q.k (i := 1) rfl, Q.k (i := 2) rfl, Q.k (i := 3) rfl⟩, Q.1, ?_, ?_, ?_, ?_⟩
  · exact (congrArg Prod.fst Q.2.2.2.1).trans ((congrArg Prod.fst A.2.2.2.1).trans hk)
  · exact (Q.o (j := 0) rfl).trans (A.rf rfl (i := 0) rfl)
  · exact ((m2 222 223 (by decide) (by decide)).hk (by decide) (by decide)).trans (A.k (i := 0) rfl).1
  · exact ((m2 222 223 (by decide) (by decide)).hl (by decide) (by decide)).trans (A.k (i := 0) rfl).2
  · show HC (gp6 h 221) = _
    omega
  · show HS (gp6 h 221) = _
    omega
  · exact (A.m (by decide) (by decide)).trans (m2 _ _ (by decide) (by decide))
  · have e1 : HI (gp6 h 221) 221 1 = HI (gp2 h 221) 221 1 := Q.2.2.2.2.1 1
    unfold mkP
    rw [HI_sIf, u2_no (by decide), HI_sIf, u2_no (by decide), e1]
    unfold gp2
    rw [HI_sIf]
    exact u2_at _ _ _ _
theorem grN (hk : HK h 235 = 3) (hN : HN h = 236) : ∃ g, CL 6 [.ref 235] h = some (.ok .null, g) ∧ GrS g ∧ HN g = 239 ∧ HC g = HC h + 3 ∧ HS g = HS h + 90 ∧ Sm h g 0 235 := by
  have S := mkG_S hk hN
  have W := mkG_w (h := h) (t := 235) hN
  exact ⟨mkG h 235, mkG_ok hk hN, ⟨S.1, ⟨S.2.1 0 (by decide), S.2.1 1 (by decide), S.2.1 2 (by decide)⟩, S.2.2⟩, by rw [W.1, hN], W.2.1, W.2.2.1, Sm.nw W (by omega) (by omega)⟩
/-- a line just made at 239 -/
def Ln0 (h : Hp) : Prop := HK h 239 = 10 ∧ HR h 239 0 = 240 ∧ HK h 240 = 102 ∧ HL h 240 = 16 ∧ (∀ k, HI h 239 k = nI 0) ∧ ∀ k, HI h 240 k = nI 0
theorem lnN (hk : HK h 239 = 10) (hN : HN h = 240) (hz : ∀ k, HI h 239 k = nI 0) : ∃ g, CL 8 [.ref 239] h = some (.ok .null, g) ∧ Ln0 g ∧ HN g = 241 ∧ HC g = HC h + 1 ∧ HS g = HS h + 16 ∧ Sm h g 0 239 := by
  refine ⟨mkL h 239, mkL_ok hk hN, ⟨?_, ?_, ?_, ?_, fun k => ?_, fun k => ?_⟩, ?_, rfl, rfl, ?_⟩
  · unfold HK
    rw [mkL_k hN 239, if_neg (by decide)]
    exact hk
  · rw [mkL_r hN, if_pos ⟨rfl, rfl⟩]
  · unfold HK
    rw [mkL_k hN 240, if_pos rfl]
  · unfold HL
    rw [mkL_k hN 240, if_pos rfl]
  · rw [mkL_i hN]
    split
    · rfl
    · exact hz k
  · rw [mkL_i hN, if_pos (Or.inl rfl)]
  · show HN h + 1 = 241
    omega
  · exact (Sm.new h 102 16 (by omega)).trans ((Sm.sR _ _ _ _ (by decide)).trans (Sm.sI _ _ _ _ (by decide)))
end MC
/-! the class itself -/
/-- an object made at B is put in place j of 31 -/
def Ob (h g h' : Hp) (B j : Nat) : Prop := h' = sR g 31 j B ∧ Sm h g 0 B ∧ 31 < B
section OB
variable {h g h' : Hp} {B j : Nat}
theorem Ob.n (O : Ob h g h' B j) : HN h' = HN g ∧ HC h' = HC g ∧ HS h' = HS g := by
  rw [O.1]
  exact ⟨rfl, rfl, rfl⟩
theorem Ob.k (O : Ob h g h' B j) {x : Nat} (e : HK h 31 = x) : HK h' 31 = x := by
  rw [O.1]
  exact (O.2.1.hk (by omega) O.2.2).trans e
theorem Ob.r (O : Ob h g h' B j) : HR h' 31 j = B := by
  rw [O.1]
  exact sR_at _ _ _ _
theorem Ob.o (O : Ob h g h' B j) {i x : Nat} (e : HR h 31 i = x) (q : i ≠ j) : HR h' 31 i = x := by
  rw [O.1]
  exact (sR_ot _ _ _ _ q).trans ((O.2.1.hr (by omega) O.2.2 i).trans e)
theorem Ob.m (O : Ob h g h' B j) : Sm h h' 32 B := by
  rw [O.1]
  exact (O.2.1.mono (by omega) (by omega)).trans (Sm.sR _ _ _ _ (by omega))
theorem Ob.z (O : Ob h g h' B j) : Sm h h' 0 31 := by
  rw [O.1]
  exact (O.2.1.mono (by omega) (by have := O.2.2; omega)).trans (Sm.sR _ _ _ _ (by omega))
theorem Ob.gg (O : Ob h g h' B j) (M : Nat) : Sm g h' 32 M := by
  rw [O.1]
  exact Sm.sR _ _ _ _ (by omega)
end OB
theorem bkN {h : Hp} {B : Nat} (hN : HN h = B) : ∃ g, CL 2 [.ref B] (hnew h 2 5) = some (.ok .null, g) ∧ BkS g B ∧ RK (HI g) B bk0 ∧ HN g = B + 17 ∧ HC g = HC h + 17 ∧ HS g = HS h + 276 ∧ Sm h g 0 B := by
  have n1 : HN (hnew h 2 5) = B + 1 := by rw [HN_hnew, hN]
  have k1 := new_k h 2 5 hN
  have W := mkK_w n1
  refine ⟨mkK (hnew h 2 5) B, mkK_ok k1 n1, mkK_S k1 n1, mkK_R n1 (new_i h 2 5 hN), ?_, ?_, ?_, (Sm.new h 2 5 (by omega)).trans (Sm.nw W (by omega) (by omega))⟩
  · rw [W.1, n1]
  · exact W.2.1
  · exact W.2.2.1

