/-! THE LAW: a key, source by source -/
def ctN (A : AF) (k s v : Nat) : Nat := sumN (fun s' => b2n (decide (0 < A s' k ∧ A s' k = v))) s
def hoN (A : AF) (k s : Nat) : Nat := sumN (fun s' => b2n (decide (0 < A s' k))) s
theorem ho_3 (A : AF) (k : Nat) : hoN A k 3 = hoA A k := by
  show 0 + _ + _ + _ = _
  rw [Nat.zero_add]
  rfl
theorem ct_le (A : AF) (k s v : Nat) : ctN A k s v ≤ s := by
  have := sumN_bd (f := fun s' => b2n (decide (0 < A s' k ∧ A s' k = v))) (n := s) (b := 1) (fun i _ => b2n_le _)
  unfold ctN
  omega
theorem ho_le (A : AF) (k s : Nat) : hoN A k s ≤ s := by
  have := sumN_bd (f := fun s' => b2n (decide (0 < A s' k))) (n := s) (b := 1) (fun i _ => b2n_le _)
  unfold hoN
  omega
section LAW14
variable {N : Nat} {xs : Nat → Int32} {h g hk : Hp} {b : Bk} {y : Nat} {Z : Nat → Prop} {n m : Nat}
theorem An.nq {r : Res} {v : Int32} (A : An r v h) (I : ZI Z h) : ∃ g, r = some (.ok (.int v), g) ∧ Nq Z h g 1 := by
  rcases A with e | e
  · exact ⟨h, e, (Nq.rf I).up (by decide)⟩
  · exact ⟨hthr h, e, nq_thr I⟩
theorem Nq.si (A : Nq Z h g n) {a i : Nat} (x : Int32) (ha : HN h ≤ a) (hz : ¬ Z a) : Nq Z h (sI g a i x) n := by
  obtain ⟨⟨a1, a2, a3, a4, a5, a6⟩, I⟩ := A
  refine ⟨⟨a1, a2, a3, fun c hc j => ?_, a5, a6⟩, (ZR_I I hz).1⟩
  show u2 (HI g) a i x c j = HI h c j
  rw [w2_ne (by omega)]
  exact a4 c hc j
theorem StS.si {s V : Nat} {M : List Nat} (T : StS h (HI h) s V M) {a i : Nat} (x : Int32) (h1 : a ≠ s) (h2 : a ≠ V) : StS (sI h a i x) (HI (sI h a i x)) s V M := by
  refine T.mv (Nat.le_refl _) ⟨rfl, rfl⟩ rfl ⟨?_, fun j _ => ?_⟩
  · show u2 (HI h) a i x s 1 = _
    exact w2_ne (by omega)
  · show u2 (HI h) a i x V j = _
    exact w2_ne (by omega)
theorem tl1 (h : Hp) : CL 188 [.int (1 : Int32)] h = some (.ok (.int (1 : Int32)), h) := told_ok true
theorem tl0 (h : Hp) : CL 188 [.int (0 : Int32)] h = some (.ok (.int (0 : Int32)), h) := told_ok false
/-- a key half told -/
def Ky (b : Bk) (Z : Nat → Prop) (hk g : Hp) (k s n a9 : Nat) : Prop := Nq Z hk g n ∧ (HK g (HN hk) = 100 ∧ HL g (HN hk) = 100 ∧ HN hk < HN g) ∧ (∀ v, v < 100 → HI g (HN hk) v = nI (ctN (kA b) k s v)) ∧ ∃ V, StS g (HI g) a9 V (kp (kA b) k s) ∧ HN hk < a9 ∧ HN hk < V
theorem kp_lo (A : AF) (k : Nat) : ∀ s, s ≤ 3 → Lo (kp A k s)
  | 0, _ => (dig_lo k).app (Lo.one (by decide))
  | s + 1, hs => by
    refine (kp_lo A k s (by omega)).app ?_
    unfold pcs
    split
    · exact ((Lo.one (by decide)).app (Lo.one (by omega))).app (dig_lo _)
    · exact Lo.nil
theorem LK.a100 (K : LK N xs h b y) {k : Nat} (hk : k < 1000) : ∀ s, s < 3 → kA b s k < 100 := fun s hs => by
  by_cases q : 0 < kA b s k
  · exact (K.am9 hs hk q).1
  · omega
theorem key_src (K : LK N xs hk b y) (zl : ∀ a, Z a → a < HN hk) {k s a9 : Nat} (hs : s < 3) (hk1 : k < 1000) (Q : Ky b Z hk g k s n a9) (a1 : Nat) (l2 l3 : Int32) (v11 : Value) : ∃ g' a9' v, RF 204 61 [.ref 31, .ref a1, .int l2, .int l3, .int (1 : Int32), .int (nI k), .int (nI (hoN (kA b) k s)), .int (0 : Int32), .ref (HN hk), .ref a9, .int (nI (97 + s)), v11] [] g = RF 204 61 [.ref 31, .ref a1, .int l2, .int l3, .int (1 : Int32), .int (nI k), .int (nI (hoN (kA b) k (s + 1))), .int (0 : Int32), .ref (HN hk), .ref a9', .int (nI (97 + (s + 1))), .int v] [] g' ∧ Ky b Z hk g' k (s + 1) (n + 24) a9' := by
  obtain ⟨A, ⟨k1, k2, k3⟩, hv, V, T, t1, t2⟩ := Q
  obtain ⟨⟨w12, -, -, -, w20⟩, -, wl⟩ := lwL
  have Kg := K.nh A
  have h100 := K.a100 hk1
  have hkl := kp_len hk1 h100 s (by omega)
  have hkl' := kp_len hk1 h100 (s + 1) (by omega)
  obtain ⟨g1, a1e, A1⟩ := (ask_am Kg hs hk1 (97 : Int32)).nq A.2
  have K1 := Kg.nh A1
  have T1 := T.nh A1.1
  have B1 := A.tr A1
  have hnk : HN hk ≤ HN g := A.hn
  have T12 := lit_st K1 (a := 12) (by decide) (by decide) (by decide) (wl 4 (by decide))
  rw [w12] at T12
  obtain ⟨g2, k2c, c2, Q2⟩ := bq_new A1.2
  obtain ⟨g3, c3, Q3⟩ := Q2.st T1 (fun z => by have := zl _ z; omega) (by simp only [List.length_nil]; omega)
  rw [List.nil_append] at Q3
  have hw61 : ∀ v, (if (0 : Int32) < v then (1 : Int32) else (0 : Int32)) = nI (b2n (decide ((0 : Int32) < v))) := fun v => by
    by_cases q : (0 : Int32) < v
    · rw [if_pos q, decide_eq_true q]
      rfl
    · rw [if_neg q, decide_eq_false q]
      rfl
  have hne : ∀ (am : Nat) (v11' : Int32), (if 0 < kA b s k then nI (kA b s k) else (-2004 : Int32)) = v11' → decide ((0 : Int32) < v11') = decide (0 < kA b s k) := fun am v11' e => by
    subst e
    by_cases q : 0 < kA b s k
    · rw [if_pos q, decide_eq_true q]
      exact decide_eq_true (show nI 0 < nI (kA b s k) by rw [lt_nI (by omega) (by have := h100 s hs; omega)]; exact q)
    · rw [if_neg q, decide_eq_false q]
      decide
  by_cases q : 0 < kA b s k
  · have am9 := h100 s hs
    have dl := dig_len2 am9
    rw [if_pos q] at a1e
    have hp : (0 : Int32) < nI (kA b s k) := show nI 0 < nI (kA b s k) by rw [lt_nI (by omega) (by omega)]; exact q
    have K3 := K1.nh Q3.2.1
    have T20 := lit_st K3 (a := 20) (by decide) (by decide) (by decide) (wl 8 (by decide))
    rw [w20] at T20
    obtain ⟨g4, k4c, c4, Q4⟩ := bq_new Q3.2.1.2
    obtain ⟨g5, c5, Q5⟩ := Q4.st T20 (Q3.2.1.2.zl (by decide)) (by decide)
    obtain ⟨g6, c6, Q6⟩ := Q5.c (ch := 97 + s) (by omega) (by decide)
    obtain ⟨g7, c7, Q7⟩ := Q6.i K3 (v := kA b s k) (by omega) (by simp only [List.length_append, List.length_cons, List.length_nil]; omega)
    obtain ⟨g8, c8, T8, v8, n8, -, -⟩ := Q7.str (((Lo.nil.app (Lo.one (by decide))).app (Lo.one (by omega))).app (dig_lo _)) (by simp only [List.length_append, List.length_cons, List.length_nil]; omega)
    have n37 := Q7.2.1.hn
    obtain ⟨g9, c9, Q9⟩ := Q3.a n8 T8 n37 (by omega) (by simp only [List.length_append, List.length_cons, List.length_nil]; omega)
    have eK : kp (kA b) k s ++ ((([] ++ [32]) ++ [97 + s]) ++ dig (kA b s k)) = kp (kA b) k (s + 1) := by
      show _ = kp (kA b) k s ++ pcs (kA b) k s
      unfold pcs
      rw [if_pos q]
      rfl
    rw [eK] at Q9
    obtain ⟨g10, c10, T10, v10, n10, -, -⟩ := Q9.str (kp_lo _ _ _ (by omega)) (by omega)
    have B10 := B1.tr n10
    have a8k : HK g10 (HN hk) = 100 := (congrArg Prod.fst ((n10.1.2.1 (HN hk) (by have := A1.hn; omega)).trans (A1.1.2.1 (HN hk) k3))).trans k1
    have a8l : HL g10 (HN hk) = 100 := (congrArg Prod.snd ((n10.1.2.1 (HN hk) (by have := A1.hn; omega)).trans (A1.1.2.1 (HN hk) k3))).trans k2
    have a8v : ∀ v, v < 100 → HI g10 (HN hk) v = nI (ctN (kA b) k s v) := fun v hv' => ((n10.1.2.2.2.1 (HN hk) (by have := A1.hn; omega) v).trans (A1.1.2.2.2.1 (HN hk) k3 v)).trans (hv v hv')
    have hch : chI g10 (HN hk) 100 (nI (kA b s k)) = true := chI_nI a8k a8l am9 (by decide)
    have h9 : HN hk < HN g9 := by
      have := Q9.2.1.hn
      have := A1.hn
      omega
    refine ⟨sI g10 (HN hk) (kA b s k) (nI (ctN (kA b) k s (kA b s k)) + (1 : Int32)), HN g9, nI (kA b s k), ?_, ?_⟩
    · rw [e204_61, if_neg (show ¬((99 : Int32) < nI (97 + s)) by rw [show ((99 : Int32) < nI (97 + s)) = (99 < 97 + s) from lt_nI (by decide) (by omega)]; omega), a1e]
      simp only [bI_ok]
      rw [if_neg (show ¬((1 : Int32) = 0) by decide), K1.k8, hasRecord_ok K1.q K1.rk hs hk1, decide_eq_true q]
      simp only [bI_ok, cond_true]
      rw [if_pos hp, e204_104, if_pos (show nI (b2n true) = (1 : Int32) from rfl), e204_112, if_pos hp, e204_126, tl1]
      simp only [bI_ok, k2c, cond_true, c2, bV_ok, Q2.ck, c3, bR_ok]
      rw [if_pos hp]
      simp only [k4c, cond_true, c4, bV_ok, Q4.ck, c5, bR_ok, Q5.ck, c6, Q6.ck, c7, Q7.ck, c8]
      have ck8 : ckK g8 (HN g1) 10 = true := by
        have z := n8.1.2.1 (HN g1) Q3.2.2.1
        have w := Q3.ck
        unfold ckK at w ⊢
        rw [show HK g8 (HN g1) = HK g3 (HN g1) from congrArg Prod.fst z]
        exact w
      rw [e204_179, ck8, c9]
      simp only [bR_ok, cond_true, Q9.ck, c10]
      rw [if_pos hp, hch, cl_nI (by omega), a8v _ am9]
      simp only [cond_true]
      rw [if_pos hp, e204_207, tl1]
      simp only [bI_ok, hch, cond_true]
      rw [cl_nI (by omega), show (nI (97 + s) + (1 : Int32)) = nI (97 + (s + 1)) from add_nI (97 + s) 1, i2c_nI (by omega), show (nI (hoN (kA b) k s) + (1 : Int32)) = nI (hoN (kA b) k (s + 1)) by
        rw [show (nI (hoN (kA b) k s) + (1 : Int32)) = nI (hoN (kA b) k s + 1) from add_nI _ 1]
        show _ = nI (hoN (kA b) k s + b2n (decide (0 < kA b s k)))
        rw [decide_eq_true q]
        rfl]
    · refine ⟨(B10.si _ (Nat.le_refl _) (fun z => by have := zl _ z; omega)).up (by omega), ⟨a8k, a8l, by show HN hk < HN g10; have := n10.hn; have := A1.hn; omega⟩, fun v hv' => ?_, HN g9 + 1, T10.si _ (by omega) (by omega), h9, by omega⟩
      show u2 (HI g10) (HN hk) (kA b s k) _ (HN hk) v = nI (ctN (kA b) k s v + b2n (decide (0 < kA b s k ∧ kA b s k = v)))
      by_cases e : kA b s k = v
      · subst e
        rw [w2_eq, decide_eq_true ⟨q, rfl⟩]
        exact add_nI _ 1
      · rw [w2_ne (by omega), decide_eq_false (fun z => e z.2), a8v v hv']
        rfl
  · rw [if_neg q] at a1e
    have hp : ¬((0 : Int32) < (-2004 : Int32)) := by decide
    obtain ⟨g9, c9, Q9⟩ := Q3.st T12 (A1.2.zl (by decide)) (by simp only [List.length_nil]; omega)
    have eK : kp (kA b) k s ++ [] = kp (kA b) k (s + 1) := by
      show _ = kp (kA b) k s ++ pcs (kA b) k s
      unfold pcs
      rw [if_neg q]
    rw [eK] at Q9
    obtain ⟨g10, c10, T10, v10, n10, -, -⟩ := Q9.str (kp_lo _ _ _ (by omega)) (by omega)
    have B10 := B1.tr n10
    have a8k : HK g10 (HN hk) = 100 := (congrArg Prod.fst ((n10.1.2.1 (HN hk) (by have := A1.hn; omega)).trans (A1.1.2.1 (HN hk) k3))).trans k1
    have a8l : HL g10 (HN hk) = 100 := (congrArg Prod.snd ((n10.1.2.1 (HN hk) (by have := A1.hn; omega)).trans (A1.1.2.1 (HN hk) k3))).trans k2
    have a8v : ∀ v, v < 100 → HI g10 (HN hk) v = nI (ctN (kA b) k s v) := fun v hv' => ((n10.1.2.2.2.1 (HN hk) (by have := A1.hn; omega) v).trans (A1.1.2.2.2.1 (HN hk) k3 v)).trans (hv v hv')
    have hch : chI g10 (HN hk) 100 (0 : Int32) = true := chI_nI (j := 0) a8k a8l (by decide) (by decide)
    have h9 : HN hk < HN g9 := by
      have := Q9.2.1.hn
      have := A1.hn
      omega
    have e0 : (0 : Int32).toNatClampNeg = 0 := rfl
    refine ⟨sI g10 (HN hk) 0 (nI (ctN (kA b) k s 0) + (0 : Int32)), HN g9, (-2004 : Int32), ?_, ?_⟩
    · rw [e204_61, if_neg (show ¬((99 : Int32) < nI (97 + s)) by rw [show ((99 : Int32) < nI (97 + s)) = (99 < 97 + s) from lt_nI (by decide) (by omega)]; omega), a1e]
      simp only [bI_ok]
      rw [if_neg (show ¬((1 : Int32) = 0) by decide), K1.k8, hasRecord_ok K1.q K1.rk hs hk1, decide_eq_false q]
      simp only [bI_ok, cond_true]
      rw [if_neg hp, e204_104, if_pos (show nI (b2n false) = (0 : Int32) from rfl), e204_112, if_neg hp, e204_126, tl0]
      simp only [bI_ok, k2c, cond_true, c2, bV_ok, Q2.ck, c3, bR_ok]
      rw [if_neg hp, e204_179, Q3.ck, c9]
      simp only [bR_ok, cond_true, Q9.ck, c10]
      rw [if_neg hp, hch, e0, a8v 0 (by decide)]
      simp only [cond_true]
      rw [if_neg hp, e204_207, tl0]
      simp only [bI_ok, hch, cond_true]
      rw [e0, show (nI (97 + s) + (1 : Int32)) = nI (97 + (s + 1)) from add_nI (97 + s) 1, i2c_nI (by omega), show (nI (hoN (kA b) k s) + (0 : Int32)) = nI (hoN (kA b) k (s + 1)) by
        rw [show (nI (hoN (kA b) k s) + (0 : Int32)) = nI (hoN (kA b) k s + 0) from add_nI _ 0]
        show _ = nI (hoN (kA b) k s + b2n (decide (0 < kA b s k)))
        rw [decide_eq_false q]
        rfl]
    · refine ⟨(B10.si _ (Nat.le_refl _) (fun z => by have := zl _ z; omega)).up (by omega), ⟨a8k, a8l, by show HN hk < HN g10; have := n10.hn; have := A1.hn; omega⟩, fun v hv' => ?_, HN g9 + 1, T10.si _ (by omega) (by omega), h9, by omega⟩
      show u2 (HI g10) (HN hk) 0 _ (HN hk) v = nI (ctN (kA b) k s v + b2n (decide (0 < kA b s k ∧ kA b s k = v)))
      rw [decide_eq_false (fun z => q z.1)]
      by_cases e : v = 0
      · subst e
        rw [w2_eq]
        exact add_nI _ 0
      · rw [w2_ne (by omega), a8v v hv']
        rfl
end LAW14
