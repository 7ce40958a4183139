/-! THE LAW: the keys, all of them -/
section LAW17
variable {N : Nat} {xs : Nat → Int32} {h g hk : Hp} {b : Bk} {y : Nat} {n m a1 k : Nat}
theorem key_one (K : LK N xs hk b y) (S : Kq b a1 k hk) (h241 : 241 ≤ a1) (hk1 : k < 100) (p2 p3 : Nat) (v6 v7 v8 v9 v10 v11 : Value) : ∃ g' w6 w7 w8 w9 w10 w11, RF 204 16 [.ref 31, .ref a1, .int (nI p2), .int (nI p3), .int (1 : Int32), .int (nI k), v6, v7, v8, v9, v10, v11] [] hk = RF 204 16 [.ref 31, .ref a1, .int (nI (p2 + acA (kA b) k)), .int (nI (p3 + (if 0 < hoA (kA b) k then 1 else 0))), .int (1 : Int32), .int (nI (k + 1)), w6, w7, w8, w9, w10, w11] [] g' ∧ Ls N xs b y hk g' 108 ∧ Kq b a1 (k + 1) g' := by
  have zl : ∀ a, (fun a => a = a1) a → a < HN hk := fun a q => (S.1.2.1 a q).2
  obtain ⟨⟨-, -, -, w18, -⟩, -, wl⟩ := lwL
  have hk9 : k < 1000 := by omega
  have d1 := dig_len3 hk9
  have A0 : Nq (fun a => a = a1) hk (hnew hk 100 100) 1 := nq_new S.1 100 100 (by decide) (by decide)
  have K0 := K.nh A0
  have T18 := lit_st K0 (a := 18) (by decide) (by decide) (by decide) (wl 7 (by decide))
  rw [w18] at T18
  obtain ⟨g2, k2, c2, Q2⟩ := bq_new A0.2
  obtain ⟨g3, c3, Q3⟩ := Q2.i K0 (v := k) (by omega) (by decide)
  obtain ⟨g4, c4, Q4⟩ := Q3.st T18 (A0.2.zl (by decide)) (by simp only [List.length_append, List.length_cons, List.length_nil]; omega)
  rw [List.nil_append] at Q4
  obtain ⟨g5, c5, T5, v5, n5, -, -⟩ := Q4.str (kp_lo (kA b) k 0 (by decide)) (by simp only [List.length_append, List.length_cons, List.length_nil]; omega)
  have hn1 : HN (hnew hk 100 100) = HN hk + 1 := rfl
  have e8 : (hnew hk 100 100).2.1 (HN hk) = (100, 100) := hnew_e hk 100 100
  have e8' := n5.1.2.1 (HN hk) (by omega)
  have n4 := Q4.2.1.hn
  have Q : Ky b (fun a => a = a1) hk g5 k 0 11 (HN g4) := by
    refine ⟨(A0.tr n5).up (by decide), ⟨(congrArg Prod.fst e8').trans (congrArg Prod.fst e8), (congrArg Prod.snd e8').trans (congrArg Prod.snd e8), by have := n5.hn; omega⟩, fun v hv => ?_, HN g4 + 1, T5, by omega, by omega⟩
    rw [n5.1.2.2.2.1 (HN hk) (by omega) v]
    show u1 (HI hk) (HN hk) 0 (HN hk) v = _
    exact if_pos rfl
  obtain ⟨g6, a6, v6', r6, Q6⟩ := key_src K zl (s := 0) (by decide) hk9 Q a1 (nI p2) (nI p3) v11
  obtain ⟨g7, a7, v7', r7, Q7⟩ := key_src K zl (s := 1) (by decide) hk9 Q6 a1 (nI p2) (nI p3) (.int v6')
  obtain ⟨g8, a8, v8', r8, Q8⟩ := key_src K zl (s := 2) (by decide) hk9 Q7 a1 (nI p2) (nI p3) (.int v7')
  have r9 := key_status K hk9 Q8 a1 (nI p2) (nI p3) (.int v8')
  obtain ⟨g', w6, w7, w8, w9, w10, f1, f2, f3⟩ := key_fin K S h241 hk1 Q8 p2 p3 (.int v8')
  refine ⟨g', w6, w7, w8, w9, w10, .int v8', Eq.trans ?_ (r6.trans (r7.trans (r8.trans (r9.trans f1)))), f2, f3⟩
  have e100 : (decide (0 ≤ (100 : Int32)) && decide ((100 : Int32) ≤ 100000)) = true := by decide
  have c100 : (100 : Int32).toNatClampNeg = 100 := rfl
  rw [e204_16, if_pos (show nI k < (100 : Int32) by rw [show (nI k < (100 : Int32)) = (k < 100) from lt_nI (by omega) (by decide)]; exact hk1), e100, c100]
  simp only [cond_true, k2, c2, bV_ok, Q2.ck, c3, bR_ok, Q3.ck, c4, Q4.ck, c5]
  rfl
def p2N (A : AF) (k : Nat) : Nat := sumN (fun k => acA A k) k
def p3N (A : AF) (k : Nat) : Nat := sumN (fun k => if 0 < hoA A k then 1 else 0) k
theorem key_all (h241 : 241 ≤ a1) : ∀ (d k : Nat) (hk : Hp) (v6 v7 v8 v9 v10 v11 : Value), k + d = 100 → LK N xs hk b y → Kq b a1 k hk → ∃ g' w6 w7 w8 w9 w10 w11, RF 204 16 [.ref 31, .ref a1, .int (nI (p2N (kA b) k)), .int (nI (p3N (kA b) k)), .int (1 : Int32), .int (nI k), v6, v7, v8, v9, v10, v11] [] hk = RF 204 16 [.ref 31, .ref a1, .int (nI (p2N (kA b) 100)), .int (nI (p3N (kA b) 100)), .int (1 : Int32), .int (nI 100), w6, w7, w8, w9, w10, w11] [] g' ∧ Ls N xs b y hk g' (108 * d) ∧ Kq b a1 100 g' := by
  intro d
  induction d with
  | zero =>
    intro k hk v6 v7 v8 v9 v10 v11 h1 K S
    have e : k = 100 := by omega
    subst e
    exact ⟨hk, v6, v7, v8, v9, v10, v11, rfl, Ls.rf K, S⟩
  | succ d ih =>
    intro k hk v6 v7 v8 v9 v10 v11 h1 K S
    obtain ⟨g1, w6, w7, w8, w9, w10, w11, r1, r2, r3⟩ := key_one K S h241 (by omega) (p2N (kA b) k) (p3N (kA b) k) v6 v7 v8 v9 v10 v11
    obtain ⟨g2, u6, u7, u8, u9, u10, u11, i1, i2, i3⟩ := ih (k + 1) g1 w6 w7 w8 w9 w10 w11 (by omega) r2.1 r3
    exact ⟨g2, u6, u7, u8, u9, u10, u11, r1.trans i1, (r2.tr i2).up (by omega), i3⟩
theorem cmp_selfF {n : Nat} (h : nnF n) : FP.fcmp (UInt32.ofNat n) (UInt32.ofNat n) = some .eq := by
  show FP.Core.cmp FP.Core.b32 (UInt32.ofNat n).toNat (UInt32.ofNat n).toNat = some .eq
  rw [u32F h]
  unfold FP.Core.cmp
  have := de32 h
  cases hd : FP.Core.decode FP.Core.b32 n with
  | nan => exact absurd hd this
  | inf s =>
    show some (compare _ _) = some Ordering.eq
    rw [Int.compare_eq_eq.mpr rfl]
  | fin s c q =>
    show some (compare _ _) = some Ordering.eq
    rw [Int.compare_eq_eq.mpr rfl]
theorem Kb.z (V : Kb b) : (∀ k, 100 ≤ k → hoA (kA b) k = 0) ∧ ∀ k, 100 ≤ k → acA (kA b) k = 0 := by
  refine ⟨fun k hk => ?_, fun k hk => ?_⟩
  · show hol3 (kA b 0 k) (kA b 1 k) (kA b 2 k) = 0
    rw [V.1 0 k hk, V.1 1 k hk, V.1 2 k hk]
    rfl
  · show ac3 (kA b 0 k) (kA b 1 k) (kA b 2 k) = 0
    rw [V.1 0 k hk, V.1 1 k hk, V.1 2 k hk]
    rfl
/-- areKeysRight -/
theorem keys_ok (K : LK N xs h b y) : ∃ g, CL 204 [.ref 31] h = some (.ok (.int (1 : Int32)), g) ∧ Ls N xs b y h g 10803 := by
  have A0 : Nq (fun _ => False) h (hnew h 100 128) 2 := nq_new K.wf 100 128 (by decide) (by decide)
  have K0 := K.nh A0
  have hn := K.hn
  have wf := K.wf
  have S0 : Kq b (HN h) 0 (hnew h 100 128) := by
    have e8 : (hnew h 100 128).2.1 (HN h) = (100, 128) := hnew_e h 100 128
    have v : ∀ i, HI (hnew h 100 128) (HN h) i = nI 0 := fun i => by
      show u1 (HI h) (HN h) 0 (HN h) i = _
      exact if_pos rfl
    refine ⟨⟨A0.2.1, fun a q => ?_, A0.2.2.2.1, fun a i q z => ?_⟩, ⟨congrArg Prod.fst e8, congrArg Prod.snd e8⟩, v 99, v 100, v 111⟩
    · have q : a = HN h := q
      subst q
      exact ⟨by omega, Nat.lt_succ_self _⟩
    · have q : ¬(a = HN h) := q
      have z : u1 (HR h) (HN h) 0 a i = HN h := z
      unfold u1 at z
      rw [if_neg q] at z
      have := wf.2.2.1 a i
      omega
  obtain ⟨g, w6, w7, w8, w9, w10, w11, r1, r2, r3⟩ := key_all (N := N) (xs := xs) (b := b) (y := y) (a1 := HN h) hn 100 0 (hnew h 100 128) .null .null .null .null .null .null rfl K0 S0
  obtain ⟨s0, ⟨s1, s2⟩, s3, s4, s5⟩ := r3
  have Kg := r2.1
  obtain ⟨z1, z2⟩ := K.kb.z
  have e2 : p2N (kA b) 100 = sumN (fun k => acA (kA b) k) 1000 := (sumN_cut (by decide) (fun k h1 _ => z2 k h1)).symm
  have e3 : p3N (kA b) 100 = nkA (kA b) := (sumN_cut (by decide) (fun k h1 _ => by rw [if_neg (by rw [z1 k h1]; decide)])).symm
  have ec : ∀ c, cwk (kA b) c 100 = cwA (kA b) c := fun c => (sumN_cut (by decide) (fun k h1 _ => by rw [decide_eq_false (fun w => by have := z1 k h1; omega)]; rfl)).symm
  rw [ec] at s3 s4 s5
  have hc9 := cw_le (kA b) 100
  have hn30 : nkA (kA b) < 31 := by
    have := K.rk.t.n30
    rw [K.rk.t.nk] at this
    exact this
  have ch9 : chI g (HN h) 100 (99 : Int32) = true := chI_nI (j := 99) s1 s2 (by decide) (by decide)
  have ch0 : chI g (HN h) 100 (100 : Int32) = true := chI_nI (j := 100) s1 s2 (by decide) (by decide)
  have ch1 : chI g (HN h) 100 (111 : Int32) = true := chI_nI (j := 111) s1 s2 (by decide) (by decide)
  have t9 : (99 : Int32).toNatClampNeg = 99 := rfl
  have t0 : (100 : Int32).toNatClampNeg = 100 := rfl
  have t1 : (111 : Int32).toNatClampNeg = 111 := rfl
  have dn := ask_dn Kg (p := cwA (kA b) 100) (Nat.le_refl _) (by omega) (97 : Int32) (97 : Int32)
  have Kt := Kg.th
  have ch9' : chI (hthr g) (HN h) 100 (99 : Int32) = true := ch9
  have s3' : HI (hthr g) (HN h) 99 = nI (cwA (kA b) 99) := s3
  refine ⟨hthr g, ?_, (((Ls.nq K A0).tr r2).tr (Ls.th Kg)).up (by decide)⟩
  have e128 : (decide (0 ≤ (128 : Int32)) && decide ((128 : Int32) ≤ 100000)) = true := by decide
  have c128 : (128 : Int32).toNatClampNeg = 128 := rfl
  have r1 : RF 204 16 [.ref 31, .ref (HN h), .int (0 : Int32), .int (0 : Int32), .int (1 : Int32), .int (0 : Int32), .null, .null, .null, .null, .null, .null] [] (hnew h 100 128) = RF 204 16 [.ref 31, .ref (HN h), .int (nI (p2N (kA b) 100)), .int (nI (p3N (kA b) 100)), .int (1 : Int32), .int (nI 100), w6, w7, w8, w9, w10, w11] [] g := r1
  rw [e204, e128, c128]
  simp only [cond_true]
  rw [r1, e204_16, if_neg (show ¬(nI 100 < (100 : Int32)) by decide), if_neg (show ¬((1 : Int32) = 0) by decide), Kg.k8, confirmedCount_ok Kg.q Kg.rk]
  simp only [cond_true, bI_ok, ch9, ch0, ch1, t9, t0, t1, s3, s4, s5, ↓reduceIte, Kg.k8, disputedCount_ok Kg.q Kg.rk, openCount_ok Kg.q Kg.rk, acceptedTotal_ok Kg.q Kg.rk, e2, dn]
  rw [e204_564, if_neg (show ¬((1 : Int32) = 0) by decide)]
  rw [e3]
  by_cases z : nkA (kA b) = 0
  · rw [if_pos (show nI (nkA (kA b)) = (0 : Int32) by rw [eqz_nI (by omega)]; exact z)]
    rfl
  · rw [if_neg (show ¬(nI (nkA (kA b)) = (0 : Int32)) by rw [eqz_nI (by omega)]; exact z), Kt.k8, share_t Kt.q Kt.rk (by omega)]
    have hb := cw_le (kA b) 99
    have hnn := fv_nn (a := cwA (kA b) 99) (m := nkA (kA b)) (by omega) z
    simp only [bF_ok, cond_true, ch9', t9, s3']
    rw [fv_eq (by omega) (by omega), if_pos (of_eq_true (ok32 hnn)), cmp_selfF hnn, if_pos (show (Op.cmpValue (some Ordering.eq) .l) = 0 by decide)]
    rfl
/-- areRecordsRight, with the keys -/
theorem recs_ok (K : LK N xs h b y) : ∃ g, CL 240 [.ref 31] h = some (.ok (.int (1 : Int32)), g) ∧ Ls N xs b y h g (860 + 10803) := records_ok (fun _ K => keys_ok K) K
end LAW17
