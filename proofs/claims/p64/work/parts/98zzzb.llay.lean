/-! THE LAW: it lays batches; it does any one thing -/
section LAW5
variable {N : Nat} {xs : Nat → Int32} {h g : Hp} {b : Bk} {y : Nat}
theorem eqz_nI {a : Nat} (ha : a < 2147483648) : (nI a = (0 : Int32)) = (a = 0) := propext ⟨fun q => by
  have := congrArg Int32.toInt q
  have h0 : ((0 : Int32)).toInt = 0 := by decide
  rw [nI_toInt ha, h0] at this
  omega, fun q => by rw [q]; rfl⟩
/-- twelve reports and a close -/
theorem lay12 (hN : N ≤ 260) {bt : Nat} (hb : bt < 3) : ∀ (d k : Nat) (h : Hp) (b : Bk) (y : Nat) (w : Int32) (v5 : Value), k + d = 12 → LK N xs h b y → y + 99 * (d + 1) < 1000000000 → ∃ g b' w' v4' v5', RF 243 19 [.ref 31, .ref 30, .int w, .int (nI bt), .int (nI k), v5] [] h = RF 243 4 [.ref 31, .ref 30, .int w', .int (nI (bt + 1)), v4', v5'] [] g ∧ LK N xs g b' (y + 99 * (d + 1)) ∧ Rm h g (d + 1) (6 * (d + 1)) := by
  intro d
  induction d with
  | zero =>
    intro k h b y w v5 hk K hy
    have e : k = 12 := by omega
    subst e
    obtain ⟨v, g, b', d1, d2, d3, -⟩ := deed2 K (by omega) (nI (97 + 0)) (nI 0) (nI 0)
    refine ⟨g, b', w + v, .int (nI 12), v5, ?_, d2.up (by omega), d3.up (by omega) (by omega)⟩
    rw [e243_19, if_neg (by decide)]
    rw [show CL 192 [.ref 31, .int (2 : Int32), .int (97 : Int32), .int (0 : Int32), .int (0 : Int32)] h = some (.ok (.int v), g) from d1]
    simp only [bI_ok]
    rw [show (nI bt + (1 : Int32)) = nI (bt + 1) from add_nI bt 1]
  | succ d ih =>
    intro k h b y w v5 hk K hy
    have hk12 : k < 12 := by omega
    obtain ⟨s, s1, s2⟩ := source_ok K.sc hN (i := 11 + 12 * bt + k) (by omega)
    obtain ⟨r1, -, r2⟩ := pick_ok K.sc hN (i := 1) (m := 2) (by decide) (by decide) (by decide)
    obtain ⟨p1, pl1, p2⟩ := pick_ok K.sc hN (i := 61 + (11 + 12 * bt + k)) (m := 12) (by omega) (by decide) (by decide)
    obtain ⟨p3, pl3, p4⟩ := pick_ok K.sc hN (i := 61 + (11 + 12 * bt + k)) (m := 70) (by omega) (by decide) (by decide)
    obtain ⟨r3, -, r4⟩ := pick_ok K.sc hN (i := 2) (m := 2) (by decide) (by decide) (by decide)
    obtain ⟨p5, -, p6⟩ := pick_ok K.sc hN (i := 111 + (11 + 12 * bt + k)) (m := 3) (by omega) (by decide) (by decide)
    obtain ⟨p7, -, p8⟩ := pick_ok K.sc hN (i := 111 + (11 + 12 * bt + k)) (m := 14) (by omega) (by decide) (by decide)
    have key : ∀ (kk aa : Int32), (∃ k0, kk = nI k0 ∧ k0 < 100) → ∃ g b' w' v4' v5', bI (CL 192 [.ref 31, .int (0 : Int32), .int (nI (97 + s)), .int kk, .int aa] h) (fun x4 h3 => RF 243 19 [.ref 31, .ref 30, .int (w + x4), .int (nI bt), .int (nI k + (1 : Int32)), .int (nI (11 + 12 * bt + k))] [] h3) thr = RF 243 4 [.ref 31, .ref 30, .int w', .int (nI (bt + 1)), v4', v5'] [] g ∧ LK N xs g b' (y + 99 * (d + 1 + 1)) ∧ Rm h g (d + 1 + 1) (6 * (d + 1 + 1)) := by
      intro kk aa hkk
      obtain ⟨v, g, b', d1, d2, d3, -⟩ := deed0 K (by omega) (nI (97 + s)) kk aa hkk
      obtain ⟨g', b2, w', v4', v5', i1, i2, i3⟩ := ih (k + 1) g b' (y + 99) (w + v) (.int (nI (11 + 12 * bt + k))) (by omega) d2 (by omega)
      refine ⟨g', b2, w', v4', v5', ?_, i2.up (by omega), (d3.tr i3).up (by omega) (by omega)⟩
      rw [show CL 192 [.ref 31, .int (0 : Int32), .int (nI (97 + s)), .int kk, .int aa] h = some (.ok (.int v), g) from d1]
      simp only [bI_ok]
      rw [show (nI k + (1 : Int32)) = nI (k + 1) from add_nI k 1]
      exact i1
    have e1 : (((11 : Int32) + ((12 : Int32) * nI bt)) + nI k) = nI (11 + 12 * bt + k) := by
      rw [show ((12 : Int32) * nI bt) = nI (12 * bt) from mul_nI 12 bt, show ((11 : Int32) + nI (12 * bt)) = nI (11 + 12 * bt) from add_nI 11 _, add_nI]
    have e2 : ((61 : Int32) + nI (11 + 12 * bt + k)) = nI (61 + (11 + 12 * bt + k)) := add_nI 61 _
    have e3 : ((111 : Int32) + nI (11 + 12 * bt + k)) = nI (111 + (11 + 12 * bt + k)) := add_nI 111 _
    have f2 : ∀ (q kk : Int32), (∃ k0, kk = nI k0 ∧ k0 < 100) → (q = (3 : Int32) ∨ q = (14 : Int32)) → ∃ g b' w' v4' v5', RF 243 94 [.ref 31, .ref 30, .int w, .int (nI bt), .int (nI k), .int (nI (11 + 12 * bt + k))] [.int q, .int (nI (111 + (11 + 12 * bt + k))), .ref 30, .int (1 : Int32), .int kk, .int (nI (97 + s)), .int (0 : Int32), .ref 31, .int w] h = RF 243 4 [.ref 31, .ref 30, .int w', .int (nI (bt + 1)), v4', v5'] [] g ∧ LK N xs g b' (y + 99 * (d + 1 + 1)) ∧ Rm h g (d + 1 + 1) (6 * (d + 1 + 1)) := by
      intro q kk hkk hq
      rw [e243_94]
      rcases hq with rfl | rfl
      · rw [show CL 186 [.ref 30, .int (nI (111 + (11 + 12 * bt + k))), .int (3 : Int32)] h = _ from p6]
        exact key kk _ hkk
      · rw [show CL 186 [.ref 30, .int (nI (111 + (11 + 12 * bt + k))), .int (14 : Int32)] h = _ from p8]
        exact key kk _ hkk
    have f1 : ∀ (q : Int32), (q = (12 : Int32) ∨ q = (70 : Int32)) → ∃ g b' w' v4' v5', RF 243 69 [.ref 31, .ref 30, .int w, .int (nI bt), .int (nI k), .int (nI (11 + 12 * bt + k))] [.int q, .int (nI (61 + (11 + 12 * bt + k))), .ref 30, .int (nI (97 + s)), .int (0 : Int32), .ref 31, .int w] h = RF 243 4 [.ref 31, .ref 30, .int w', .int (nI (bt + 1)), v4', v5'] [] g ∧ LK N xs g b' (y + 99 * (d + 1 + 1)) ∧ Rm h g (d + 1 + 1) (6 * (d + 1 + 1)) := by
      intro q hq
      have hp : ∃ k0, k0 < 100 ∧ CL 186 [.ref 30, .int (nI (61 + (11 + 12 * bt + k))), .int q] h = some (.ok (.int (nI k0)), h) := by
        rcases hq with rfl | rfl
        · exact ⟨p1, by omega, p2⟩
        · exact ⟨p3, by omega, p4⟩
      obtain ⟨kk, kl, hkk⟩ := hp
      rw [e243_69, hkk]
      simp only [bI_ok]
      rw [show CL 186 [.ref 30, .int (2 : Int32), .int (2 : Int32)] h = _ from r4]
      simp only [bI_ok]
      rw [e3]
      split
      · exact f2 _ _ ⟨kk, rfl, kl⟩ (Or.inl rfl)
      · exact f2 _ _ ⟨kk, rfl, kl⟩ (Or.inr rfl)
    rw [e243_19, if_pos (by rw [show (12 : Int32) = nI 12 from rfl, lt_nI (by omega) (by decide)]; exact hk12), e1, s2]
    simp only [bI_ok]
    rw [show CL 186 [.ref 30, .int (1 : Int32), .int (2 : Int32)] h = _ from r2]
    simp only [bI_ok]
    rw [e2]
    split
    · exact f1 _ (Or.inl rfl)
    · exact f1 _ (Or.inr rfl)
theorem ly_a {y d : Nat} (h : y + 1300 * (d + 1) < 1000000000) : y + 99 * (12 + 1) < 1000000000 ∧ y + 99 * (12 + 1) + 1300 * d < 1000000000 ∧ y + 99 * (12 + 1) + 1300 * d ≤ y + 1300 * (d + 1) := by omega
/-- the batches of the start -/
theorem layB_ok (K : LK N xs h b y) (hN : N ≤ 260) (hy : y + 5000 < 1000000000) : ∃ g b', CL 243 [.ref 31, .ref 30] h = some (.ok .null, g) ∧ LK N xs g b' (y + 5000) ∧ Rm h g 50 300 := by
  have lp : ∀ (d k : Nat) (h : Hp) (b : Bk) (y : Nat) (w : Int32) (v4 v5 : Value), k + d = 3 → LK N xs h b y → y + 1300 * d < 1000000000 → ∃ g b', RF 243 4 [.ref 31, .ref 30, .int w, .int (nI k), v4, v5] [] h = some (.ok .null, g) ∧ LK N xs g b' (y + 1300 * d) ∧ Rm h g (13 * d) (78 * d) := by
    intro d
    induction d with
    | zero =>
      intro k h b y w v4 v5 hk K hy
      obtain ⟨r, r1, r2⟩ := pick_ok K.sc hN (i := 0) (m := 3) (by decide) (by decide) (by decide)
      refine ⟨h, b, ?_, K, Rm.rf h⟩
      rw [e243_4, show CL 186 [.ref 30, .int (0 : Int32), .int (3 : Int32)] h = _ from r2]
      simp only [bI_ok]
      rw [show ((1 : Int32) + nI r) = nI (1 + r) from add_nI 1 r]
      simp (disch := omega) only [lt_nI, show ¬ (k < 1 + r) by omega, ↓reduceIte]
    | succ d ih =>
      intro k h b y w v4 v5 hk K hy
      obtain ⟨r, r1, r2⟩ := pick_ok K.sc hN (i := 0) (m := 3) (by decide) (by decide) (by decide)
      rw [e243_4, show CL 186 [.ref 30, .int (0 : Int32), .int (3 : Int32)] h = _ from r2]
      simp only [bI_ok]
      rw [show ((1 : Int32) + nI r) = nI (1 + r) from add_nI 1 r]
      simp (disch := omega) only [lt_nI]
      by_cases q : k < 1 + r
      · rw [if_pos q]
        obtain ⟨hy2, hy3, hy4⟩ := ly_a hy
        obtain ⟨g, b', w', v4', v5', i1, i2, i3⟩ := lay12 hN (bt := k) (by omega) 12 0 h b y w v5 (Nat.zero_add 12) K hy2
        obtain ⟨g2, b2, j1, j2, j3⟩ := ih (k + 1) g b' (y + 99 * (12 + 1)) w' v4' v5' (by omega) i2 hy3
        exact ⟨g2, b2, i1.trans j1, j2.up hy4, (i3.tr j3).up (by omega) (by omega)⟩
      · rw [if_neg q]
        exact ⟨h, b, rfl, K.up (by omega), (Rm.rf h).up (by omega) (by omega)⟩
  obtain ⟨g, b', i1, i2, i3⟩ := lp 3 0 h b y 0 .null .null (by decide) K (by omega)
  refine ⟨g, b', ?_, i2.up (by omega), i3.up (by omega) (by omega)⟩
  rw [e243]
  exact i1
end LAW5
