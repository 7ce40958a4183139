/-! THE LAW: what a report would be is what it becomes -/
section LAW19
variable {N : Nat} {xs : Nat → Int32} {h g : Hp} {b b' : Bk} {y y' : Nat} {a3 : Nat}
theorem zi_new (W : WF h) (k m : Nat) : ZI (fun a => a = HN h) (hnew h k m) := by
  have W2 := (ZR_new (k := k) (m := m) W).1
  refine ⟨W2.1, fun a q => ?_, W2.2.2.1, fun a i q z => ?_⟩
  · have q : a = HN h := q
    subst q
    exact ⟨W.1, Nat.lt_succ_self _⟩
  · have q : ¬(a = HN h) := q
    have z : u1 (HR h) (HN h) 0 a i = HN h := z
    unfold u1 at z
    rw [if_neg q] at z
    have := W.2.2.1 a i
    omega
theorem line_nil (K : LK N xs h b y) {s V : Nat} (T : StS h (HI h) s V []) : CL 203 [.ref 31, .int (nI 0), .ref s] h = some (.ok (.int (1 : Int32)), h) := by
  have hl : CL 91 [.ref s] h = some (.ok (.int (nI 0)), h) := sLen_ok (h := h) (f := HI h) T
  rw [e203, T.ck, hl]
  simp only [bI_ok, cond_true, ↓reduceIte]
  rw [e203_13, e203_17, T.ck, hl]
  simp only [bI_ok, cond_true]
  rw [if_neg (show ¬((0 : Int32) < nI 0) by decide)]
  rfl
/-- the book was saved -/
theorem LK.sv (K : LK N xs h b y) {f : Nat → Nat → Int32} (F : ∀ a z, ¬(66 ≤ a ∧ a < 83) → ¬(a = 31 ∧ z = 8) → f a z = HI h a z) : LK N xs (wI h f) b y := by
  obtain ⟨m, H, R⟩ := K.rh
  obtain ⟨L, c, A, S, lo⟩ := K.ln
  have ap := S.ap
  refine ⟨K.wf, K.hn, K.2.2.1, ⟨K.ks, K.ko.fr (fun a z ha => F a z (by omega) (by omega))⟩, ⟨K.sc, fun k => (F 30 k (by omega) (by omega)).trans (K.xx k)⟩, ?_, ⟨m, H, R.fr (fun a z h1 h2 => F a z (by omega) (by omega))⟩, ⟨L, c, A, ?_, lo⟩, K.cn, K.bd, K.qv, K.kb⟩
  · have R := K.rk
    exact ⟨R.t.cong (fun i z hi => F _ z (by omega) (by omega)), R.q.cong (fun i z hi => F _ z (by omega) (by omega)), fun s hs => by rw [show HI (wI h f) (32 + 15) s = HI h (32 + 15) s from F (32 + 15) s (by omega) (by omega)]; exact R.tr hs, fun i hi => by rw [show HI (wI h f) (32 + 16) i = HI h (32 + 16) i from F (32 + 16) i (by omega) (by omega)]; exact R.tt hi, by rw [show HI (wI h f) 32 4 = HI h 32 4 from F 32 4 (by omega) (by omega)]; exact R.y⟩
  · exact ⟨S.k, S.r, S.ka, S.la, S.an, S.ap, S.hn, (F 239 1 (by omega) (by omega)).trans S.c0, (F 239 3 (by omega) (by omega)).trans S.n, S.le, S.c3, fun i hi => by rw [show HI (wI h f) A i = HI h A i from F A i (by omega) (by omega)]; exact S.z i hi, fun i hi => by rw [show HI (wI h f) A i = HI h A i from F A i (by omega) (by omega)]; exact S.x i hi⟩
/-- the end: the book is back -/
theorem rep_end {v : Int32} (hv : ∀ y h, LK N xs h b y → CL 241 [.ref 31] h = some (.ok (.int v), h)) (O : Cns b ∧ Bd b y ∧ Qv b ∧ Kb b) (K : LK N xs h b' y') (G : RSC (HI h) (some b)) (a2 a5 a6 a7 a8 a9 a10 : Int32) (s : Nat) : ∃ f, RF 242 269 [.ref 31, .int v, .int a2, .ref a3, .ref s, .int a5, .int a6, .int a7, .int a8, .int a9, .int a10, .null] [.int (1 : Int32)] h = some (.ok (.int (1 : Int32)), wI h f) ∧ LK N xs (wI h f) b y := by
  obtain ⟨m, H, RHh⟩ := K.rh
  obtain ⟨f, c160, R, RHf, F⟩ := restoreC_t (H' := H) K.rr G RHh
  have K5 : LK N xs (wI h f) b y := K.set R RHf F O
  have t0 := trustOf_ok K5.q K5.rk (show 0 < 3 by decide)
  have t1 := trustOf_ok K5.q K5.rk (show 1 < 3 by decide)
  have t2 := trustOf_ok K5.q K5.rk (show 2 < 3 by decide)
  have b0 := (K5.rk.tr (show 0 < 3 by decide)).2
  have b1 := (K5.rk.tr (show 1 < 3 by decide)).2
  have b2 := (K5.rk.tr (show 2 < 3 by decide)).2
  have mt := mostTrusted_ok K5.q K5.rk
  have lk := hv y (wI h f) K5
  have fin : ∀ w : Int32, w = nI (97 + mtB b) → ∀ u : Int32, RF 242 323 [.ref 31, .int v, .int a2, .ref a3, .ref s, .int a5, .int (1 : Int32), .int (nI (tot (kA b))), .int a8, .int a9, .int a10, .int u] [.int w] (wI h f) = some (.ok (.int (1 : Int32)), wI h f) := fun w hw u => by
    rw [e242_323, if_neg (show ¬((1 : Int32) = 0) by decide), K5.k8, mt]
    simp only [cond_true, bI_ok]
    rw [if_pos hw.symm, lk]
    simp only [bI_ok, ↓reduceIte]
    rfl
  refine ⟨f, ?_, K5⟩
  rw [e242_269, K.k8, c160]
  simp only [cond_true, bI_ok, K5.k8]
  rw [show CL 180 [.ref 31, .int (98 : Int32)] (wI h f) = _ from t1]
  simp only [cond_true, bI_ok, K5.k8]
  rw [show CL 180 [.ref 31, .int (97 : Int32)] (wI h f) = _ from t0]
  simp only [bI_ok]
  have um : mtB b = (if kT b 0 < kT b 1 then (if kT b 1 < kT b 2 then 2 else 1) else (if kT b 0 < kT b 2 then 2 else 0)) := rfl
  by_cases q : kT b 0 < kT b 1
  · rw [if_pos (show nI (kT b 0) < nI (kT b 1) by rw [lt_nI (by omega) (by omega)]; exact q), e242_299, K5.k8]
    rw [show CL 180 [.ref 31, .int (99 : Int32)] (wI h f) = _ from t2]
    simp only [cond_true, bI_ok, K5.k8]
    rw [show CL 180 [.ref 31, .int (98 : Int32)] (wI h f) = _ from t1]
    simp only [bI_ok]
    rw [if_pos q] at um
    by_cases q2 : kT b 1 < kT b 2
    · rw [if_pos (show nI (kT b 1) < nI (kT b 2) by rw [lt_nI (by omega) (by omega)]; exact q2)]
      exact fin _ (by rw [um, if_pos q2]; rfl) _
    · rw [if_neg (show ¬(nI (kT b 1) < nI (kT b 2)) by rw [lt_nI (by omega) (by omega)]; exact q2)]
      exact fin _ (by rw [um, if_neg q2]; rfl) _
  · rw [if_neg (show ¬(nI (kT b 0) < nI (kT b 1)) by rw [lt_nI (by omega) (by omega)]; exact q), e242_299, K5.k8]
    rw [show CL 180 [.ref 31, .int (99 : Int32)] (wI h f) = _ from t2]
    simp only [cond_true, bI_ok, K5.k8]
    rw [show CL 180 [.ref 31, .int (97 : Int32)] (wI h f) = _ from t0]
    simp only [bI_ok]
    rw [if_neg q] at um
    by_cases q2 : kT b 0 < kT b 2
    · rw [if_pos (show nI (kT b 0) < nI (kT b 2) by rw [lt_nI (by omega) (by omega)]; exact q2)]
      exact fin _ (by rw [um, if_pos q2]; rfl) _
    · rw [if_neg (show ¬(nI (kT b 0) < nI (kT b 2)) by rw [lt_nI (by omega) (by omega)]; exact q2)]
      exact fin _ (by rw [um, if_neg q2]; rfl) _
theorem RSC.fd {f f' : Nat → Nat → Int32} (G : RSC f (some b)) (F : FD f f') : RSC f' (some b) := by
  obtain ⟨g1, R⟩ := G
  refine ⟨(F 31 8 (by omega) (by omega)).trans g1, R.t.cong (fun i z hi => F _ z (by omega) (by omega)), R.q.cong (fun i z hi => F _ z (by omega) (by omega)), fun s hs => ?_, fun i hi => ?_, ?_⟩
  · rw [F (66 + 15) s (by omega) (by omega)]
    exact R.tr hs
  · rw [F (66 + 16) i (by omega) (by omega)]
    exact R.tt hi
  · rw [F 66 4 (by omega) (by omega)]
    exact R.y
/-- closing it, and back -/
theorem rep_close {v : Int32} (hv : ∀ y h, LK N xs h b y → CL 241 [.ref 31] h = some (.ok (.int v), h)) (K : LK N xs h b y) (hy : y < 1000000000) (h241 : 241 ≤ a3) (hk : HK h a3 = 100 ∧ HL h a3 = 128) (o1 : HI h a3 99 = nI (ocN b 99 (kN b))) (o2 : HI h a3 100 = nI (ocN b 100 (kN b))) (o3 : HI h a3 110 = nI (ocN b 110 (kN b))) (a2 : Int32) (s : Nat) : ∃ g, RF 242 168 [.ref 31, .int v, .int a2, .ref a3, .ref s, .int (nI (b2n (decide (tot (kA b) + nwA (kA b) (kQ b) (kN b) ≤ 30)))), .null, .null, .null, .null, .null, .null] [.int (1 : Int32)] h = some (.ok (.int (1 : Int32)), g) ∧ LK N xs g b y ∧ Rm h g 1 6 := by
  have O := (⟨K.cn, K.bd, K.qv, K.kb⟩ : Cns b ∧ Bd b y ∧ Qv b ∧ Kb b)
  obtain ⟨f, c175, G, F⟩ := saveC_ok K.rr K.rk
  have K3 : LK N xs (wI h f) b y := K.sv F
  obtain ⟨c68, c60, -⟩ := totalsC_ok K3.q K3.rk
  have k3 : HK (wI h f) a3 = 100 := hk.1
  have l3 : HL (wI h f) a3 = 128 := hk.2
  have i3 : ∀ c, f a3 c = HI h a3 c := fun c => F a3 c (by omega) (by omega)
  have hfl : flB b 2 0 0 (nI 0) = (if tot (kA b) + nwA (kA b) (kQ b) (kN b) ≤ 30 then 0 else 3) := rfl
  have start : ∀ (x8 : Int32) (h4 : Hp) (w : Res), CL 192 [.ref 31, .int (2 : Int32), .int (97 : Int32), .int (0 : Int32), .int (0 : Int32)] (wI h f) = some (.ok (.int x8), h4) → (if nI (b2n (decide (tot (kA b) + nwA (kA b) (kQ b) (kN b) ≤ 30))) = 0 then RF 242 221 [.ref 31, .int v, .int a2, .ref a3, .ref s, .int (nI (b2n (decide (tot (kA b) + nwA (kA b) (kQ b) (kN b) ≤ 30)))), .int (1 : Int32), .int (nI (tot (kA b))), .int (nI (kU b 0)), .int (nI (kU b 1)), .int x8, .null] [.int ((-2005) : Int32), .int x8] h4 else cond (chI h4 a3 100 (110 : Int32)) (RF 242 221 [.ref 31, .int v, .int a2, .ref a3, .ref s, .int (nI (b2n (decide (tot (kA b) + nwA (kA b) (kQ b) (kN b) ≤ 30)))), .int (1 : Int32), .int (nI (tot (kA b))), .int (nI (kU b 0)), .int (nI (kU b 1)), .int x8, .null] [.int (HI h4 a3 (110 : Int32).toNatClampNeg), .int x8] h4) none) = w → RF 242 168 [.ref 31, .int v, .int a2, .ref a3, .ref s, .int (nI (b2n (decide (tot (kA b) + nwA (kA b) (kQ b) (kN b) ≤ 30)))), .null, .null, .null, .null, .null, .null] [.int (1 : Int32)] h = w := fun x8 h4 w e1 e2 => by
    rw [e242_168, K.k8, c175]
    simp only [cond_true, bI_ok, K3.k8, c68, c60, e1]
    rw [if_neg (show ¬((1 : Int32) = 0) by decide)]
    exact e2
  by_cases cz : tot (kA b) + nwA (kA b) (kQ b) (kN b) ≤ 30
  · obtain ⟨f4, c54, K4, F4⟩ := K3.chg hy (j := 2) (s := 0) (k := 0) (a0 := 0) (by decide) (by decide) (by decide) (by decide) (fun z => absurd z (by decide)) (by rw [hfl, if_pos cz])
    have c192 := deo2 K3.k8 (97 : Int32) (0 : Int32) (0 : Int32) c54
    have c192 : CL 192 [.ref 31, .int (2 : Int32), .int (97 : Int32), .int (0 : Int32), .int (0 : Int32)] (wI h f) = some (.ok (.int (nI (nwA (kA b) (kQ b) (kN b)))), wI (wI h f) f4) := c192
    have K4 : LK N xs (wI (wI h f) f4) (clB b) (y + 99) := K4
    obtain ⟨fe, r1, r2⟩ := rep_end (a3 := a3) hv O K4 (G.fd F4) a2 (nI (b2n true)) (1 : Int32) (nI (tot (kA b))) (nI (kU b 0)) (nI (kU b 1)) (nI (nwA (kA b) (kQ b) (kN b))) s
    refine ⟨_, ?_, r2, Nat.le_add_right _ _, Nat.le_add_right _ _⟩
    refine start _ _ _ c192 ?_
    rw [decide_eq_true cz, if_neg (show ¬(nI (b2n true) = 0) by decide)]
    have i4 : ∀ c, HI (wI (wI h f) f4) a3 c = HI h a3 c := fun c => (F4 a3 c (by omega) (by omega)).trans (i3 c)
    have ch0 : chI (wI (wI h f) f4) a3 100 (110 : Int32) = true := chI_nI (j := 110) k3 l3 (by decide) (by decide)
    have ch1 : chI (wI (wI h f) f4) a3 100 (100 : Int32) = true := chI_nI (j := 100) k3 l3 (by decide) (by decide)
    have ch2 : chI (wI (wI h f) f4) a3 100 (99 : Int32) = true := chI_nI (j := 99) k3 l3 (by decide) (by decide)
    have t0 : (110 : Int32).toNatClampNeg = 110 := rfl
    have t1 : (100 : Int32).toNatClampNeg = 100 := rfl
    have t2 : (99 : Int32).toNatClampNeg = 99 := rfl
    obtain ⟨d68, d60, -⟩ := totalsC_ok K4.q K4.rk
    have u0 : kU (clB b) 0 = kU b 0 + ocN b 100 (kN b) := rfl
    have u1 : kU (clB b) 1 = kU b 1 + ocN b 99 (kN b) := rfl
    have un : kN (clB b) = 0 := rfl
    rw [ch0, t0, i4, o3]
    simp only [cond_true]
    rw [e242_221, if_pos (show nI (nwA (kA b) (kQ b) (kN b)) = nI (ocN b 110 (kN b)) from rfl), if_neg (show ¬(nI (b2n true) = 0) by decide), K4.k8, d68]
    simp only [cond_true, bI_ok, ch1, t1, i4, o2]
    rw [if_pos (show nI (kU (clB b) 0) = nI (kU b 0) + nI (ocN b 100 (kN b)) by rw [u0, add_nI]), K4.k8, d60]
    simp only [cond_true, bI_ok, ch2, t2, i4, o1]
    rw [if_pos (show nI (kU (clB b) 1) = nI (kU b 1) + nI (ocN b 99 (kN b)) by rw [u1, add_nI]), K4.k8, reportCount_ok K4.q K4.rk]
    simp only [cond_true, bI_ok, un]
    rw [if_pos (show nI 0 = 0 from rfl)]
    exact r1
  · have hne : flB b 2 0 0 (nI 0) ≠ 0 := by rw [hfl, if_neg cz]; decide
    have c54 := change_flt K3.rr K3.rk (j := 2) (s := 0) (k := 0) (by decide) (by decide) (by decide) (nI 0) hne
    rw [hfl, if_neg cz] at c54
    have c192 := dex2 K3.k8 (97 : Int32) (0 : Int32) (0 : Int32) c54
    have c192 : CL 192 [.ref 31, .int (2 : Int32), .int (97 : Int32), .int (0 : Int32), .int (0 : Int32)] (wI h f) = some (.ok (.int ((-2005) : Int32)), hthr (wI h f)) := c192
    have K4 : LK N xs (hthr (wI h f)) b y := K3.th
    have G4 : RSC (HI (hthr (wI h f))) (some b) := G
    obtain ⟨fe, r1, r2⟩ := rep_end (a3 := a3) hv O K4 G4 a2 (nI (b2n false)) (1 : Int32) (nI (tot (kA b))) (nI (kU b 0)) (nI (kU b 1)) ((-2005) : Int32) s
    refine ⟨_, ?_, r2, Nat.le_refl _, Nat.le_refl _⟩
    refine start _ _ _ c192 ?_
    rw [decide_eq_false cz, if_pos (show nI (b2n false) = 0 from rfl), e242_221, if_pos rfl, if_pos (show nI (b2n false) = 0 from rfl)]
    exact r1
/-- areReportsRight -/
theorem reports_ok (K : LK N xs h b y) (hy : y < 1000000000) : ∃ g, CL 242 [.ref 31] h = some (.ok (.int (1 : Int32)), g) ∧ Ls N xs b y h g 310 := by
  have n12 := K.qv.1
  have h241 := K.hn
  have t30 := K.t30
  obtain ⟨v, hv⟩ := looks_ok (N := N) (xs := xs) (b := b) n12
  have A0 : Nq (fun _ => False) h (hnew h 100 128) 2 := nq_new K.wf 100 128 (by decide) (by decide)
  have K0 := K.nh A0
  obtain ⟨⟨w12, -, -, -, -⟩, -, wl⟩ := lwL
  have T12 := lit_st K0 (a := 12) (by decide) (by decide) (by decide) (wl 4 (by decide))
  rw [w12] at T12
  have e8 : (hnew h 100 128).2.1 (HN h) = (100, 128) := hnew_e h 100 128
  have vv : ∀ i, HI (hnew h 100 128) (HN h) i = nI 0 := fun i => by
    show u1 (HI h) (HN h) 0 (HN h) i = _
    exact if_pos rfl
  have W0 : Wq b (HN h) 0 (hnew h 100 128) 12 := ⟨zi_new K.wf 100 128, ⟨congrArg Prod.fst e8, congrArg Prod.snd e8⟩, ⟨vv 99, vv 100, vv 110⟩, 13, T12, Or.inl ⟨rfl, rfl, rfl⟩, by omega, by omega⟩
  obtain ⟨g1, s1, r1, r2, I1, ⟨ka, la⟩, ⟨o1, o2, o3⟩, V, T, sv, ns, nV⟩ := rep_all (N := N) (xs := xs) (b := b) (y := y) h241 v (kN b) 0 (hnew h 100 128) 12 (Nat.zero_add _) K0 W0
  have K1 := r2.1
  have ha3 : HN h < HN g1 := (I1.2.1 (HN h) rfl).2
  have line : ∃ g2, CL 89 [.ref 31] g1 = some (.ok (.int (nI (batL (kA b) (kQ b) (kN b)).length)), g2) ∧ LK N xs g2 b y ∧ CL 203 [.ref 31, .int (nI (batL (kA b) (kQ b) (kN b)).length), .ref s1] g2 = some (.ok (.int (1 : Int32)), g2) ∧ (HK g2 (HN h) = 100 ∧ HL g2 (HN h) = 128) ∧ (∀ c, HI g2 (HN h) c = HI g1 (HN h) c) ∧ Rm g1 g2 3 300 := by
    rcases sv with ⟨z1, z2, z3⟩ | ⟨z1, z0, z2⟩
    · obtain ⟨g2, c89, F⟩ := fm_bat K1 I1 (fun q => by have q : 31 = HN h := q; omega)
      obtain ⟨K2, -, -, Zs2, R2⟩ := F
      obtain ⟨q1, q2, -⟩ := Zs2.2 (HN h) rfl
      have T12' := lit_st K2 (a := 12) (by decide) (by decide) (by decide) (wl 4 (by decide))
      rw [w12] at T12'
      refine ⟨g2, c89, K2, ?_, ⟨(congrArg Prod.fst q1).trans ka, (congrArg Prod.snd q1).trans la⟩, q2, R2⟩
      rw [z2, z1]
      exact line_nil K2 T12'
    · obtain ⟨g2, c89, F⟩ := fm_bat K1 z2 (fun q => by
        rcases q with q | q | q <;> omega)
      have hl := fm_line (h0 := g1) F (batL_lo (fun i hi => (K.qv.2 i hi).1) _ (Nat.le_refl _)) T z1 (Or.inr (Or.inl rfl)) (Or.inr (Or.inr rfl))
      obtain ⟨K2, -, -, Zs2, R2⟩ := F
      obtain ⟨q1, q2, -⟩ := Zs2.2 (HN h) (Or.inl rfl)
      exact ⟨g2, c89, K2, hl, ⟨(congrArg Prod.fst q1).trans ka, (congrArg Prod.snd q1).trans la⟩, q2, R2⟩
  obtain ⟨g2, c89, K2, hl, hk2, i2, R2⟩ := line
  obtain ⟨g3, d1, d2, d3⟩ := rep_close hv K2 hy h241 hk2 ((i2 99).trans o1) ((i2 100).trans o2) ((i2 110).trans o3) (nI (kN b)) s1
  refine ⟨g3, ?_, d2, (((A0.1.rm.tr r2.2).tr R2).tr d3).up (by omega) (by omega)⟩
  have e128 : (decide (0 ≤ (128 : Int32)) && decide ((128 : Int32) ≤ 100000)) = true := by decide
  have c128 : (128 : Int32).toNatClampNeg = 128 := rfl
  have r1 : RF 242 23 [.ref 31, .int v, .int (nI (kN b)), .ref (HN h), .ref 12, .int (0 : Int32), .null, .null, .null, .null, .null, .null] [] (hnew h 100 128) = RF 242 23 [.ref 31, .int v, .int (nI (kN b)), .ref (HN h), .ref s1, .int (nI (kN b)), .null, .null, .null, .null, .null, .null] [] g1 := r1
  have ch0 : chI g1 (HN h) 100 (110 : Int32) = true := chI_nI (j := 110) ka la (by decide) (by decide)
  have t0 : (110 : Int32).toNatClampNeg = 110 := rfl
  have nw12 : nwA (kA b) (kQ b) (kN b) ≤ 12 := by
    have := sumN_bd (f := fun j => b2n (decide (oc (kA b) (kQ b) j = 110))) (n := kN b) (b := 1) (fun i _ => b2n_le _)
    unfold nwA
    omega
  have on : nI (ocN b 110 (kN b)) = nI (nwA (kA b) (kQ b) (kN b)) := rfl
  rw [e242, hv y h K]
  simp only [bI_ok, K.k8, cond_true, reportCount_ok K.q K.rk, e128, c128]
  rw [r1, e242_23, if_neg (show ¬(nI (kN b) < nI (kN b)) by rw [lt_nI (by omega) (by omega)]; omega), K1.k8, canClose_ok K1.q K1.rk]
  simp only [bI_ok, K1.k8, cond_true, recordCount_ok K1.q K1.rk, ch0, t0, o3]
  rw [on, add_nI]
  have e147 : ∀ w, (cond (ckK g1 31 8) (bI (CL 89 [.ref 31] g1) (fun x2 h1 => bI (CL 203 [.ref 31, .int x2, .ref s1] h1) (fun x4 h3 => if x4 = 0 then RF 242 168 [.ref 31, .int v, .int (nI (kN b)), .ref (HN h), .ref s1, .int (nI (b2n (decide (tot (kA b) + nwA (kA b) (kQ b) (kN b) ≤ 30)))), .null, .null, .null, .null, .null, .null] [.int (0 : Int32)] h3 else RF 242 168 [.ref 31, .int v, .int (nI (kN b)), .ref (HN h), .ref s1, .int (nI (b2n (decide (tot (kA b) + nwA (kA b) (kQ b) (kN b) ≤ 30)))), .null, .null, .null, .null, .null, .null] [.int (1 : Int32)] h3) thr) thr) none) = w → RF 242 147 [.ref 31, .int v, .int (nI (kN b)), .ref (HN h), .ref s1, .int (nI (b2n (decide (tot (kA b) + nwA (kA b) (kQ b) (kN b) ≤ 30)))), .null, .null, .null, .null, .null, .null] [.int (nI (b2n (decide (tot (kA b) + nwA (kA b) (kQ b) (kN b) ≤ 30)))), .int (nI (b2n (decide (tot (kA b) + nwA (kA b) (kQ b) (kN b) ≤ 30))))] g1 = w := fun w hw => by
    rw [e242_147, if_pos rfl]
    exact hw
  have j147 : RF 242 147 [.ref 31, .int v, .int (nI (kN b)), .ref (HN h), .ref s1, .int (nI (b2n (decide (tot (kA b) + nwA (kA b) (kQ b) (kN b) ≤ 30)))), .null, .null, .null, .null, .null, .null] [.int (nI (b2n (decide (tot (kA b) + nwA (kA b) (kQ b) (kN b) ≤ 30)))), .int (nI (b2n (decide (tot (kA b) + nwA (kA b) (kQ b) (kN b) ≤ 30))))] g1 = some (.ok (.int (1 : Int32)), g3) := by
    refine e147 _ ?_
    rw [K1.k8, c89]
    simp only [cond_true, bI_ok, hl]
    rw [if_neg (show ¬((1 : Int32) = 0) by decide)]
    exact d1
  have lt30 : ((30 : Int32) < nI (tot (kA b) + nwA (kA b) (kQ b) (kN b))) = (30 < tot (kA b) + nwA (kA b) (kQ b) (kN b)) := lt_nI (by decide) (by omega)
  by_cases cz : tot (kA b) + nwA (kA b) (kQ b) (kN b) ≤ 30
  · rw [if_neg (show ¬((30 : Int32) < nI (tot (kA b) + nwA (kA b) (kQ b) (kN b))) by rw [lt30]; omega)]
    rw [decide_eq_true cz] at j147 ⊢
    exact j147
  · rw [if_pos (show (30 : Int32) < nI (tot (kA b) + nwA (kA b) (kQ b) (kN b)) by rw [lt30]; omega)]
    rw [decide_eq_false cz] at j147 ⊢
    exact j147
end LAW19
