/-! A RUN: what is true of its books -/
/-- the batch is in order -/
def Qv (b : Bk) : Prop := kN b ≤ 12 ∧ ∀ i, i < kN b → (kQ b i).1 < 3 ∧ (kQ b i).2.1 < 1000 ∧ 0 < (kQ b i).2.2
theorem Qv.eff {b : Bk} (V : Qv b) {j s k a : Nat} (hs : s < 3) (hk : k < 1000) (ha : a < 100) (hf : flB b j s k (nI a) = 0) : Qv (effB b j s k a) := by
  match j with
  | 0 =>
    have e : flB b 0 s k (nI a) = (if inr 1 99 (nI a) then (if kN b < 12 then 0 else 3) else 1) := rfl
    rw [e] at hf
    by_cases q : inr 1 99 (nI a) = true
    · rw [if_pos q] at hf
      by_cases q2 : kN b < 12
      · obtain ⟨w, w1, w2, w3⟩ := inr_t (by decide) (by decide) q
        have ea : a = w := by
          have := congrArg Int32.toNatClampNeg w3
          rw [cl_nI (by omega), cl_nI (by omega)] at this
          exact this
        refine ⟨?_, fun i hi => ?_⟩
        · show kN b + 1 ≤ 12
          omega
        · have hi' : i < kN b + 1 := hi
          show (adQ (kQ b) (kN b) s k a i).1 < 3 ∧ (adQ (kQ b) (kN b) s k a i).2.1 < 1000 ∧ 0 < (adQ (kQ b) (kN b) s k a i).2.2
          unfold adQ
          split
          · exact ⟨hs, hk, by show 0 < a; omega⟩
          · exact V.2 i (by omega)
      · rw [if_neg q2] at hf
        exact absurd hf (by decide)
    · rw [if_neg q] at hf
      exact absurd hf (by decide)
  | 1 =>
    refine ⟨?_, fun i hi => ?_⟩
    · show kN b - 1 ≤ 12
      have := V.1
      omega
    · have hi' : i < kN b - 1 := hi
      show (rmQ (kQ b) _ i).1 < 3 ∧ (rmQ (kQ b) _ i).2.1 < 1000 ∧ 0 < (rmQ (kQ b) _ i).2.2
      unfold rmQ
      split
      · exact V.2 (i + 1) (by omega)
      · exact V.2 i (by omega)
  | 2 => exact ⟨Nat.zero_le 12, fun i hi => absurd hi (Nat.not_lt_zero i)⟩
  | 3 => exact ⟨Nat.zero_le 12, fun i hi => absurd hi (Nat.not_lt_zero i)⟩
  | 4 => exact V
  | 5 => exact V
  | j + 6 => exact V
theorem bsq_ok {b : Bk} {C : Nat → Cm} {y M : Nat} (hB : Bd b y) (hC : Cns b) (V : Qv b) (hok : ∀ j, j < M → okC (C j)) (hf : ∀ j, j < M → flC b C j = 0) : ∀ i, i ≤ M → Bd (bsq b C i) (y + 99 * i) ∧ Cns (bsq b C i) ∧ Qv (bsq b C i)
  | 0, _ => ⟨hB.up (by omega), hC, V⟩
  | i + 1, hi => by
    obtain ⟨a1, a2, a3⟩ := bsq_ok hB hC V hok hf i (by omega)
    obtain ⟨o1, o2, o3, o4⟩ := hok i (by omega)
    have f0 : flB (bsq b C i) (C i).1 (C i).2.1 (C i).2.2.1 (nI (C i).2.2.2) = 0 := hf i (by omega)
    have e : (nI (C i).2.2.2).toNatClampNeg = (C i).2.2.2 := cl_nI (by omega)
    refine ⟨(a1.eff (by omega) a3.1).up (by omega), ?_, a3.eff o2 o3 o4 f0⟩
    have := a2.eff o1 o2 o3 f0 a3.2
    rw [e] at this
    exact this
section CRN
variable {N : Nat} {xs : Nat → Int32} {s y : Nat} {h : Hp} {b : Bk} {m : Nat} {H : HF} {sv : Option Bk} {oe oq : Option Nat} {x : Nat → Nat} {n : Nat} {L : List Nat}
theorem LWc.qv (K : LWc N xs s y h b m H sv oe oq x n L) : Qv b := ⟨K.rn.q.1, fun i hi => ⟨(K.rn.q.2.2 i hi).2.2.2.1, (K.rn.q.2.2 i hi).2.2.2.2.1, (K.rn.q.2.2 i hi).2.2.2.2.2.1⟩⟩
/-- the class's state after a run -/
theorem LWc.crn (K : LWc N xs s y h b m H sv oe oq x n L) {f1 : Nat → Nat → Int32} {b' : Bk} {m' : Nat} {H' : HF} {oe' oq' : Option Nat} (R : RK f1 32 b') (G : RH f1 m' H') (e9 : f1 31 9 = oI oe') (e10 : f1 31 10 = oI oq') (e13 : f1 221 1 = nI 0) (F : FRc (HI h) f1) : ClS f1 b' m' H' sv oe' oq' x 0 := ⟨R, G, K.c.2.2.1.fr (fun a z q => F a z (by omega) (by omega) (by omega)), e9, e10, e13, Nat.zero_le _, fun i hi => absurd hi (Nat.not_lt_zero i)⟩
theorem LWc.mrn (K : LWc N xs s y h b m H sv oe oq x n L) {f1 f3 : Nat → Nat → Int32} (F1 : ∀ a z, ¬(31 ≤ a ∧ a < 239) → f1 a z = HI h a z) {b' : Bk} {m' : Nat} {H' : HF} {oe' oq' : Option Nat} (R : RN (f3 242) b') (G : RG f3 m' H') (e9 : f3 241 6 = oI oe') (e10 : f3 241 7 = oI oq') (e13 : f3 241 13 = nI 0) (F : FRm f1 f3) : MlS f3 b' m' H' sv oe' oq' x 0 L := ⟨R, G, K.mm.2.2.1.fr (fun a z q => (F a z (by omega) (by omega) (by omega) (by omega) (by omega)).trans (F1 a z (by omega))), e9, e10, ⟨e13, Nat.zero_le _, fun i hi => absurd hi (Nat.not_lt_zero i)⟩, K.mm.2.2.2.2.2.2.fr (fun a z q => (F a z (by omega) (by omega) (by omega) (by omega) (by omega)).trans (F1 a z (by omega)))⟩
theorem b325 (K : LWc N xs s y h b m H sv oe oq x n L) (hy : y + 6000 < 1000000000) : SB N xs s y h (CL 325 [.ref 31, .ref 253]) (CL 334 [.ref 241]) := by
  obtain ⟨NN, hN⟩ : ∃ NN, NN = 60 := ⟨_, rfl⟩
  have T := K.c.2.2.2.2.2
  have U := K.mm.2.2.2.2.2.1
  have O := K.ok.up (y' := y + 6000) (by omega)
  have C0 : Nat → Cm := fun _ => (0, 0, 0, 0)
  obtain ⟨re, ro⟩ := run_ok K.rr K.pg K.ks K.ko T C0 hN K.rk K.ok.1.2 hy K.c.2.1
  have rm : ∀ (g : Hp) (f1 : Nat → Nat → Int32), MdS g → KoS g → FRc (HI h) f1 → _ := fun g f1 S1 S2 F => runM_ok (h := g) (f := f1) S1 S2 (fun a h1 h2 k => (F a k (by omega) (by omega) (by omega)).trans (K.ko a h1 h2 k)) (U.fr (fun a z q => F a z (by omega) (by omega) (by omega))) C0 hN (K.rn.cong (fun k hk => F 242 k (by omega) (by omega) (by omega))) K.ok.1.2 hy (K.mm.2.1.fr (fun a z q => F a z (by omega) (by omega) (by omega)))
  obtain ⟨be, bo⟩ := prsA_b (x := x) (n := n) NN 0 0 C0 (Nat.zero_le n) (fun j hj => absurd hj (Nat.not_lt_zero j))
  have n60 := T.2.1
  have F1 : ∀ {f1 : Nat → Nat → Int32}, FRc (HI h) f1 → ∀ a z, ¬(31 ≤ a ∧ a < 239) → f1 a z = HI h a z := fun F a z q => F a z (by omega) (by omega) (by omega)
  have F3 : ∀ {f1 f3 : Nat → Nat → Int32}, FRm f1 f3 → ∀ a z, ¬(241 ≤ a ∧ a < 253) → f3 a z = f1 a z := fun F a z q => F a z (by omega) (by omega) (by omega) (by omega) (by omega)
  cases hp : prsA x n NN 0 0 C0 with
  | error e =>
    obtain ⟨f1, c1, c2, c3, c4, c5, c6, c7⟩ := re e hp
    obtain ⟨f3, m1, m2, m3, m4, m5, m6, m7, m8⟩ := (rm (hthr (wI h f1)) f1 K.md K.ks c7).1 e hp
    refine K.gE (t := 1) (w325_1 K.k8 c1) (by decide) (by decide) m1 m4 (F1 c7) (F3 m8) (b' := b) (m' := m) (H' := H) (sv' := sv) (oe' := some e) (oq' := oq) (x' := x) (n' := 0) (K.crn c2 c3 c4 (c5.trans K.c.2.2.2.2.1) c6 c7) (K.mrn (F1 c7) m2 m3 m5 (m6.trans ((F1 c7 241 7 (by decide)).trans K.mm.2.2.2.2.1)) m7 m8) ⟨O.1, O.2.1, O.2.2.1, fun k hk => ?_, O.2.2.2.2⟩
    have := be e hp
    have ek : e = k := Option.some.inj hk
    omega
  | ok r =>
    obtain ⟨b1, b2, b3, -⟩ := bo r hp
    obtain ⟨r1, r2⟩ := ro r hp
    cases hf : fai b r.2 r.1 with
    | some i =>
      obtain ⟨f1, c1, c2, c3, c4, c5, c6, c7⟩ := r1 i hf
      obtain ⟨f3, m1, m2, m3, m4, m5, m6, m7, m8⟩ := ((rm (hthr (wI h f1)) f1 K.md K.ks c7).2 r hp).1 i hf
      refine K.gE (t := 2) (w325_2 K.k8 c1) (by decide) (by decide) m1 m4 (F1 c7) (F3 m8) (b' := b) (m' := m) (H' := H) (sv' := sv) (oe' := oe) (oq' := some i) (x' := x) (n' := 0) (K.crn c2 c3 (c4.trans K.c.2.2.2.1) c5 c6 c7) (K.mrn (F1 c7) m2 m3 (m5.trans ((F1 c7 241 6 (by decide)).trans K.mm.2.2.2.1)) m6 m7 m8) ⟨O.1, O.2.1, O.2.2.1, O.2.2.2.1, fun k hk => ?_, O.2.2.2.2.2⟩
      have hi := (fst_some.mp (show fst? (fun i => decide (flC b r.2 i ≠ 0)) r.1 = some i from hf)).1
      have ek : i = k := Option.some.inj hk
      omega
    | none =>
      obtain ⟨f1, c1, c2, c3, c4, c5, c6, c7⟩ := r2 hf
      obtain ⟨f3, m1, m2, m3, m4, m5, m6, m7, m8⟩ := ((rm (sJ (wI h f1) 253 0 (nI r.1).toInt64) f1 K.md K.ks c7).2 r hp).2 hf
      have hz : ∀ j, j < r.1 → flC b r.2 j = 0 := fun j hj => by
        have := fst_none.mp (show fst? (fun i => decide (flC b r.2 i ≠ 0)) r.1 = none from hf) j hj
        simpa using this
      obtain ⟨g1, g2, -⟩ := bsq_ok K.ok.1.2 K.ok.1.1 K.qv b3 hz r.1 (Nat.le_refl _)
      refine K.gB (w325_ok K.k8 c1 K.ou) m1 m4 (F1 c7) (F3 m8) (b' := bsq b r.2 r.1) (m' := if m < 8 then m + 1 else 8) (H' := puH b H) (sv' := sv) (oe' := oe) (oq' := oq) (x' := x) (n' := 0) (K.crn c2 c3 (c4.trans K.c.2.2.2.1) (c5.trans K.c.2.2.2.2.1) c6 c7) (K.mrn (F1 c7) m2 m3 (m5.trans ((F1 c7 241 6 (by decide)).trans K.mm.2.2.2.1)) (m6.trans ((F1 c7 241 7 (by decide)).trans K.mm.2.2.2.2.1)) m7 m8) ⟨⟨g2, g1.up (by omega)⟩, fun i hi => ?_, O.2.2⟩
      cases i with
      | zero => exact O.1
      | succ i =>
        have : i < m := by
          split at hi <;> omega
        exact O.2.1 i this
end CRN
