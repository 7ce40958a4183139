/-! THE LAW: its groups -/
section LAW20
variable {N : Nat} {xs : Nat → Int32} {h g : Hp} {b : Bk} {y : Nat}
def g5 (h : Hp) (n : Nat) : Hp := hnew (hnew (hnew h 101 n) 100 n) 100 n
theorem g5_k (h : Hp) (n : Nat) : ((HK (g5 h n) (HN h) = 101 ∧ HL (g5 h n) (HN h) = n) ∧ (HK (g5 h n) (HN h + 1) = 100 ∧ HL (g5 h n) (HN h + 1) = n) ∧ (HK (g5 h n) (HN h + 2) = 100 ∧ HL (g5 h n) (HN h + 2) = n)) := by
  have e0 : (g5 h n).2.1 (HN h) = (101, n) := by
    unfold g5
    rw [hnew_k _ _ _ _ (show HN h ≠ HN (hnew (hnew h 101 n) 100 n) by show HN h ≠ HN h + 1 + 1; omega), hnew_k _ _ _ _ (show HN h ≠ HN (hnew h 101 n) by show HN h ≠ HN h + 1; omega), hnew_e]
  have e1 : (g5 h n).2.1 (HN h + 1) = (100, n) := by
    unfold g5
    rw [hnew_k _ _ _ _ (show HN h + 1 ≠ HN (hnew (hnew h 101 n) 100 n) by show HN h + 1 ≠ HN h + 1 + 1; omega)]
    exact hnew_e (hnew h 101 n) 100 n
  have e2 : (g5 h n).2.1 (HN h + 2) = (100, n) := hnew_e (hnew (hnew h 101 n) 100 n) 100 n
  exact ⟨⟨congrArg Prod.fst e0, congrArg Prod.snd e0⟩, ⟨congrArg Prod.fst e1, congrArg Prod.snd e1⟩, congrArg Prod.fst e2, congrArg Prod.snd e2⟩
theorem g5_q (W : WF h) {n : Nat} (hn : n ≤ 100) : Nq (fun _ => False) h (g5 h n) 3 := ((nq_new W 101 n (u := 1) (by omega) (by decide)).tr (nq_new (nq_new W 101 n (u := 1) (by omega) (by decide)).2 100 n (u := 1) (by omega) (by decide))).tr (nq_new ((nq_new (nq_new W 101 n (u := 1) (by omega) (by decide)).2 100 n (u := 1) (by omega) (by decide))).2 100 n (u := 1) (by omega) (by decide))
theorem gr_lk (K : LK N xs h b y) {n : Nat} (hn : n ≤ 100) {f : Nat → Nat → Int32} (F : ∀ a z, a < HN h → f a z = HI h a z) : LK N xs (wI (g5 h n) f) b y := by
  obtain ⟨⟨q1, q2, q3, q4, -, -⟩, I⟩ := g5_q K.wf hn
  exact K.eqv (g := wI (g5 h n) f) I q1 q2 q3 (fun a ha z => F a z ha)
def GF (A : AF) (h : Hp) (i : Nat) (f : Nat → Nat → Int32) : Prop := (∀ a z, a < HN h → f a z = HI h a z) ∧ ∀ j, j < i → f (HN h) j = nI (97 + srI A j) ∧ f (HN h + 1) j = nI (kyI A j) ∧ f (HN h + 2) j = nI j
theorem g5_c (h : Hp) {n i : Nat} (hi : i < n) (hn : n ≤ 100) (f : Nat → Nat → Int32) : chI (wI (g5 h n) f) (HN h) 101 (nI i) = true ∧ chI (wI (g5 h n) f) (HN h + 1) 100 (nI i) = true ∧ chI (wI (g5 h n) f) (HN h + 2) 100 (nI i) = true := by
  obtain ⟨⟨a1, a2⟩, ⟨b1, b2⟩, c1, c2⟩ := g5_k h n
  exact ⟨chI_nI (h := wI (g5 h n) f) a1 a2 hi (by omega), chI_nI (h := wI (g5 h n) f) b1 b2 hi (by omega), chI_nI (h := wI (g5 h n) f) c1 c2 hi (by omega)⟩
theorem gr_row (K : LK N xs h b y) {s : Nat} (hs : s < 3) : ∀ (d p : Nat) (f : Nat → Nat → Int32), p + d = numA (kA b) s → GF (kA b) h (cnN (kA b) s + p) f → ∃ f', RF 195 35 [.ref 31, .int (nI (tot (kA b))), .ref (HN h), .ref (HN h + 1), .ref (HN h + 2), .int (nI (cnN (kA b) s + p)), .int (nI (97 + s)), .int (nI p), .null, .null, .null] [] (wI (g5 h (tot (kA b))) f) = RF 195 25 [.ref 31, .int (nI (tot (kA b))), .ref (HN h), .ref (HN h + 1), .ref (HN h + 2), .int (nI (cnN (kA b) (s + 1))), .int (nI (97 + (s + 1))), .int (nI (numA (kA b) s)), .null, .null, .null] [] (wI (g5 h (tot (kA b))) f') ∧ GF (kA b) h (cnN (kA b) (s + 1)) f' := by
  have t30 := K.t30
  have hn := num_le (kA b) s
  intro d
  induction d with
  | zero =>
    intro p f hp G
    have e : p = numA (kA b) s := by omega
    subst e
    have Kf := gr_lk K (n := tot (kA b)) (by omega) G.1
    refine ⟨f, ?_, G⟩
    rw [e195_35, Kf.k8, recordsOf_ok Kf.q Kf.rk hs]
    simp only [cond_true, bI_ok]
    rw [if_neg (show ¬(nI (numA (kA b) s) < nI (numA (kA b) s)) by rw [lt_nI (by omega) (by omega)]; omega), show (nI (97 + s) + (1 : Int32)) = nI (97 + (s + 1)) from add_nI (97 + s) 1, i2c_nI (by omega)]
    rfl
  | succ d ih =>
    intro p f hp G
    obtain ⟨F, G2⟩ := G
    obtain ⟨k1, k2, k3, k4⟩ := kyA_ok (show p < numA (kA b) s by omega)
    obtain ⟨x1, x2, x3⟩ := ix_at hs (show p < numA (kA b) s by omega)
    have Kf := gr_lk K (n := tot (kA b)) (by omega) F
    have n5 := K.hn
    have F1 : ∀ a z, a < HN h → u2 f (HN h) (cnN (kA b) s + p) (nI (97 + s)) a z = HI h a z := fun a z ha => by
      rw [w2_ne (by omega)]
      exact F a z ha
    have K1 := gr_lk K (n := tot (kA b)) (by omega) F1
    have c129 := keyAt_ok K1.q K1.rk hs (nI p)
    rw [k4] at c129
    have ch0 := g5_c h (n := tot (kA b)) (i := cnN (kA b) s + p) x3 (by omega)
    have G' : GF (kA b) h (cnN (kA b) s + p + 1) (u2 (u2 (u2 f (HN h) (cnN (kA b) s + p) (nI (97 + s))) (HN h + 1) (cnN (kA b) s + p) (nI (kyA (kA b) s p))) (HN h + 2) (cnN (kA b) s + p) (nI (cnN (kA b) s + p))) := by
      refine ⟨fun a z ha => ?_, fun j hj => ⟨?_, ?_, ?_⟩⟩
      · rw [w2_ne (by omega), w2_ne (by omega)]
        exact F1 a z ha
      · rw [w2_ne (by omega), w2_ne (by omega)]
        by_cases e : j = cnN (kA b) s + p
        · subst e
          rw [w2_eq, x1]
        · rw [w2_ne (by omega)]
          exact (G2 j (by omega)).1
      · rw [w2_ne (by omega)]
        by_cases e : j = cnN (kA b) s + p
        · subst e
          rw [w2_eq, x2]
        · rw [w2_ne (by omega), w2_ne (by omega)]
          exact (G2 j (by omega)).2.1
      · by_cases e : j = cnN (kA b) s + p
        · subst e
          rw [w2_eq]
        · rw [w2_ne (by omega), w2_ne (by omega), w2_ne (by omega)]
          exact (G2 j (by omega)).2.2
    obtain ⟨f', i1, i2⟩ := ih (p + 1) _ (by omega) G'
    refine ⟨f', Eq.trans ?_ i1, i2⟩
    rw [e195_35, Kf.k8, recordsOf_ok Kf.q Kf.rk hs]
    simp only [cond_true, bI_ok]
    rw [if_pos (show nI p < nI (numA (kA b) s) by rw [lt_nI (by omega) (by omega)]; omega), (ch0 f).1, fit2_n (show 97 + s < 65536 by omega), cl_nI (by omega)]
    rw [show sI (wI (g5 h (tot (kA b))) f) (HN h) (cnN (kA b) s + p) (nI (97 + s)) = wI (g5 h (tot (kA b))) (u2 f (HN h) (cnN (kA b) s + p) (nI (97 + s))) from rfl]
    simp only [Bool.and_self, cond_true, K1.k8, c129, bI_ok, (ch0 _).2.1]
    rw [show sI (wI (g5 h (tot (kA b))) (u2 f (HN h) (cnN (kA b) s + p) (nI (97 + s)))) (HN h + 1) (cnN (kA b) s + p) (nI (kyA (kA b) s p)) = wI (g5 h (tot (kA b))) (u2 (u2 f (HN h) (cnN (kA b) s + p) (nI (97 + s))) (HN h + 1) (cnN (kA b) s + p) (nI (kyA (kA b) s p))) from rfl]
    rw [(ch0 _).2.2, show (nI (cnN (kA b) s + p) + (1 : Int32)) = nI (cnN (kA b) s + p + 1) from add_nI _ 1, show (nI p + (1 : Int32)) = nI (p + 1) from add_nI p 1]
    rfl
theorem gr_fill (K : LK N xs h b y) : ∀ (d s : Nat) (v7 : Value) (f : Nat → Nat → Int32), s + d = 3 → GF (kA b) h (cnN (kA b) s) f → ∃ f' v7', RF 195 25 [.ref 31, .int (nI (tot (kA b))), .ref (HN h), .ref (HN h + 1), .ref (HN h + 2), .int (nI (cnN (kA b) s)), .int (nI (97 + s)), v7, .null, .null, .null] [] (wI (g5 h (tot (kA b))) f) = RF 195 93 [.ref 31, .int (nI (tot (kA b))), .ref (HN h), .ref (HN h + 1), .ref (HN h + 2), .int (nI (tot (kA b))), .int (nI 0), v7', .null, .null, .null] [] (wI (g5 h (tot (kA b))) f') ∧ GF (kA b) h (tot (kA b)) f' := by
  intro d
  induction d with
  | zero =>
    intro s v7 f hs G
    have e : s = 3 := by omega
    subst e
    rw [(cn_s (kA b)).2.2.2] at G ⊢
    refine ⟨f, v7, ?_, G⟩
    rw [e195_25, if_pos (show (99 : Int32) < nI (97 + 3) by decide)]
    rfl
  | succ d ih =>
    intro s v7 f hs G
    obtain ⟨f1, r1, G1⟩ := gr_row K (show s < 3 by omega) (numA (kA b) s) 0 f (Nat.zero_add _) G
    obtain ⟨f2, v2, i1, i2⟩ := ih (s + 1) (.int (nI (numA (kA b) s))) f1 (by omega) G1
    refine ⟨f2, v2, Eq.trans ?_ (r1.trans i1), i2⟩
    rw [e195_25, if_neg (show ¬((99 : Int32) < nI (97 + s)) by rw [show ((99 : Int32) < nI (97 + s)) = (99 < 97 + s) from lt_nI (by decide) (by omega)]; omega)]
    rfl
end LAW20
